/-! the instructions of the methods, as lists -/
abbrev XIs : Type := List (Nat × Instr × Nat)
def xi_ok (cc : ByteArray) (l : XIs) : Bool := l.all (fun q => decide (decode cc q.1 = .ok (q.2.1, q.2.2)))
theorem xi_c {cc : ByteArray} {b : Bool} {x y : XIs} (hx : xi_ok cc x = true) (hy : xi_ok cc y = true) : xi_ok cc (cond b x y) = true := by
  cases b
  · exact hy
  · exact hx
def xi_0 (pc : Nat) : XIs := []
theorem xi_ok0 (pc : Nat) : xi_ok code (xi_0 pc) = true := rfl
def xi_1 (pc : Nat) : XIs := []
theorem xi_ok1 (pc : Nat) : xi_ok cL_node (xi_1 pc) = true := rfl
def xi_2 (pc : Nat) : XIs := []
theorem xi_ok2 (pc : Nat) : xi_ok cL_arc (xi_2 pc) = true := rfl
def xi_3 (pc : Nat) : XIs := []
theorem xi_ok3 (pc : Nat) : xi_ok cL_take (xi_3 pc) = true := rfl
def xi_4 (pc : Nat) : XIs := []
theorem xi_ok4 (pc : Nat) : xi_ok cL_set (xi_4 pc) = true := rfl
def xi_5 (pc : Nat) : XIs := []
theorem xi_ok5 (pc : Nat) : xi_ok cL_label (xi_5 pc) = true := rfl
def xi_6 (pc : Nat) : XIs := []
theorem xi_ok6 (pc : Nat) : xi_ok cL_view (xi_6 pc) = true := rfl
def xi_7 (pc : Nat) : XIs := []
theorem xi_ok7 (pc : Nat) : xi_ok cL_size (xi_7 pc) = true := rfl
def xi_8 (pc : Nat) : XIs := []
theorem xi_ok8 (pc : Nat) : xi_ok cL_told (xi_8 pc) = true := rfl
def xi_9 (pc : Nat) : XIs := []
theorem xi_ok9 (pc : Nat) : xi_ok cL_labelOf (xi_9 pc) = true := rfl
def xi_10 (pc : Nat) : XIs := []
theorem xi_ok10 (pc : Nat) : xi_ok cL_arcAt (xi_10 pc) = true := rfl
def xi_11 (pc : Nat) : XIs := []
theorem xi_ok11 (pc : Nat) : xi_ok cL_type (xi_11 pc) = true := rfl
def xi_12 (pc : Nat) : XIs := []
theorem xi_ok12 (pc : Nat) : xi_ok cL_fault (xi_12 pc) = true := rfl
def xi_13 (pc : Nat) : XIs := []
theorem xi_ok13 (pc : Nat) : xi_ok cL_printed (xi_13 pc) = true := rfl
def xi_14 (pc : Nat) : XIs := []
theorem xi_ok14 (pc : Nat) : xi_ok cL_distance (xi_14 pc) = true := rfl
def xi_15 (pc : Nat) : XIs := []
theorem xi_ok15 (pc : Nat) : xi_ok cL_way (xi_15 pc) = true := rfl
def xi_16 (pc : Nat) : XIs := []
theorem xi_ok16 (pc : Nat) : xi_ok cL_width (xi_16 pc) = true := rfl
def xi_17 (pc : Nat) : XIs := []
theorem xi_ok17 (pc : Nat) : xi_ok cL_shorts (xi_17 pc) = true := rfl
def xi_18 (pc : Nat) : XIs := []
theorem xi_ok18 (pc : Nat) : xi_ok cL_shortArc (xi_18 pc) = true := rfl
def xi_19 (pc : Nat) : XIs := []
theorem xi_ok19 (pc : Nat) : xi_ok cL_part (xi_19 pc) = true := rfl
def xi_20 (pc : Nat) : XIs := []
theorem xi_ok20 (pc : Nat) : xi_ok cL_bridge (xi_20 pc) = true := rfl
def xi_21 (pc : Nat) : XIs := []
theorem xi_ok21 (pc : Nat) : xi_ok cL_cut (xi_21 pc) = true := rfl
def xi_22 (pc : Nat) : XIs := []
theorem xi_ok22 (pc : Nat) : xi_ok cL_order (xi_22 pc) = true := rfl
def xi_23 (pc : Nat) : XIs := []
theorem xi_ok23 (pc : Nat) : xi_ok cL_core (xi_23 pc) = true := rfl
def xi_24 (pc : Nat) : XIs := []
theorem xi_ok24 (pc : Nat) : xi_ok cL_clique (xi_24 pc) = true := rfl
def xi_25 (pc : Nat) : XIs := []
theorem xi_ok25 (pc : Nat) : xi_ok cL_colour (xi_25 pc) = true := rfl
def xi_26 (pc : Nat) : XIs := []
theorem xi_ok26 (pc : Nat) : xi_ok cL_flow (xi_26 pc) = true := rfl
def xi_27 (pc : Nat) : XIs := []
theorem xi_ok27 (pc : Nat) : xi_ok cL_side (xi_27 pc) = true := rfl
def xi_28 (pc : Nat) : XIs := []
theorem xi_ok28 (pc : Nat) : xi_ok cL_cost (xi_28 pc) = true := rfl
def xi_29 (pc : Nat) : XIs := []
theorem xi_ok29 (pc : Nat) : xi_ok cL_pairing (xi_29 pc) = true := rfl
def xi_30 (pc : Nat) : XIs := []
theorem xi_ok30 (pc : Nat) : xi_ok cL_tree (xi_30 pc) = true := rfl
def xi_31 (pc : Nat) : XIs := []
theorem xi_ok31 (pc : Nat) : xi_ok cL_span (xi_31 pc) = true := rfl
def xi_32 (pc : Nat) : XIs := []
theorem xi_ok32 (pc : Nat) : xi_ok cL_rank (xi_32 pc) = true := rfl
def xi_33 (pc : Nat) : XIs := []
theorem xi_ok33 (pc : Nat) : xi_ok cL_shortest (xi_33 pc) = true := rfl
def xi_34 (pc : Nat) : XIs := []
theorem xi_ok34 (pc : Nat) : xi_ok cL_group (xi_34 pc) = true := rfl
def xi_35 (pc : Nat) : XIs := []
theorem xi_ok35 (pc : Nat) : xi_ok cL_figures (xi_35 pc) = true := rfl
def xi_36 (pc : Nat) : XIs := []
theorem xi_ok36 (pc : Nat) : xi_ok cL_fits (xi_36 pc) = true := rfl
def xi_37 (pc : Nat) : XIs := []
theorem xi_ok37 (pc : Nat) : xi_ok cL_run (xi_37 pc) = true := rfl
def xi_38 (pc : Nat) : XIs := []
theorem xi_ok38 (pc : Nat) : xi_ok cL_state (xi_38 pc) = true := rfl
def xi_39 (pc : Nat) : XIs := []
theorem xi_ok39 (pc : Nat) : xi_ok cL_letters (xi_39 pc) = true := rfl
def xi_40 (pc : Nat) : XIs := []
theorem xi_ok40 (pc : Nat) : xi_ok cX0_init (xi_40 pc) = true := rfl
def xi_41 (pc : Nat) : XIs := []
theorem xi_ok41 (pc : Nat) : xi_ok cX0_greatestClique (xi_41 pc) = true := rfl
def xi_42 (pc : Nat) : XIs := []
theorem xi_ok42 (pc : Nat) : xi_ok cX0_growClique (xi_42 pc) = true := rfl
def xi_43 (pc : Nat) : XIs := []
theorem xi_ok43 (pc : Nat) : xi_ok cX0_colourOf (xi_43 pc) = true := rfl
def xi_44 (pc : Nat) : XIs := []
theorem xi_ok44 (pc : Nat) : xi_ok cX0_makeColours (xi_44 pc) = true := rfl
def xi_45 (pc : Nat) : XIs := []
theorem xi_ok45 (pc : Nat) : xi_ok cX0_classOf (xi_45 pc) = true := rfl
def xi_46 (pc : Nat) : XIs := []
theorem xi_ok46 (pc : Nat) : xi_ok cX0_fill (xi_46 pc) = true := rfl
def xi_47 (pc : Nat) : XIs := []
theorem xi_ok47 (pc : Nat) : xi_ok cX0_fillPiece (xi_47 pc) = true := rfl
def xi_48 (pc : Nat) : XIs := []
theorem xi_ok48 (pc : Nat) : xi_ok cX0_besides (xi_48 pc) = true := rfl
def xi_49 (pc : Nat) : XIs := []
theorem xi_ok49 (pc : Nat) : xi_ok cX0_setAside (xi_49 pc) = true := rfl
def xi_50 (pc : Nat) : XIs := []
theorem xi_ok50 (pc : Nat) : xi_ok cX0_takeBack (xi_50 pc) = true := rfl
def xi_51 (pc : Nat) : XIs := []
theorem xi_ok51 (pc : Nat) : xi_ok cX0_freeColours (xi_51 pc) = true := rfl
def xi_52 (pc : Nat) : XIs := []
theorem xi_ok52 (pc : Nat) : xi_ok cX0_tightest (xi_52 pc) = true := rfl
def xi_53 (pc : Nat) : XIs := []
theorem xi_ok53 (pc : Nat) : xi_ok cX0_lessen (xi_53 pc) = true := rfl
def xi_54 (pc : Nat) : XIs := []
theorem xi_ok54 (pc : Nat) : xi_ok cX0_canLower (xi_54 pc) = true := rfl
def xi_55 (pc : Nat) : XIs := []
theorem xi_ok55 (pc : Nat) : xi_ok cX1_init (xi_55 pc) = true := rfl
def xi_56 (pc : Nat) : XIs := []
theorem xi_ok56 (pc : Nat) : xi_ok cX1_adopt (xi_56 pc) = true := rfl
def xi_57 (pc : Nat) : XIs := []
theorem xi_ok57 (pc : Nat) : xi_ok cX1_emit (xi_57 pc) = true := rfl
def xi_58 (pc : Nat) : XIs := []
theorem xi_ok58 (pc : Nat) : xi_ok cX1_readExpression (xi_58 pc) = true := rfl
def xi_59 (pc : Nat) : XIs := []
theorem xi_ok59 (pc : Nat) : xi_ok cX1_readSum (xi_59 pc) = true := rfl
def xi_60 (pc : Nat) : XIs := []
theorem xi_ok60 (pc : Nat) : xi_ok cX1_readProduct (xi_60 pc) = true := rfl
def xi_61 (pc : Nat) : XIs := []
theorem xi_ok61 (pc : Nat) : xi_ok cX1_readFactor (xi_61 pc) = true := rfl
def xi_62 (pc : Nat) : XIs := []
theorem xi_ok62 (pc : Nat) : xi_ok cX1_readAtom (xi_62 pc) = true := rfl
def xi_63 (pc : Nat) : XIs := []
theorem xi_ok63 (pc : Nat) : xi_ok cX1_work (xi_63 pc) = true := rfl
def xi_64 (pc : Nat) : XIs := []
theorem xi_ok64 (pc : Nat) : xi_ok cX1_doRound (xi_64 pc) = true := rfl
def xi_65 (pc : Nat) : XIs := []
theorem xi_ok65 (pc : Nat) : xi_ok cX1_look (xi_65 pc) = true := rfl
def xi_66 (pc : Nat) : XIs := []
theorem xi_ok66 (pc : Nat) : xi_ok cX1_compute (xi_66 pc) = true := rfl
def xi_67 (pc : Nat) : XIs := []
theorem xi_ok67 (pc : Nat) : xi_ok cX1_combine (xi_67 pc) = true := rfl
def xi_68 (pc : Nat) : XIs := []
theorem xi_ok68 (pc : Nat) : xi_ok cX1_times (xi_68 pc) = true := rfl
def xi_69 (pc : Nat) : XIs := []
theorem xi_ok69 (pc : Nat) : xi_ok cX1_clip (xi_69 pc) = true := rfl
def xi_70 (pc : Nat) : XIs := []
theorem xi_ok70 (pc : Nat) : xi_ok cX1_post (xi_70 pc) = true := rfl
def xi_71 (pc : Nat) : XIs := []
theorem xi_ok71 (pc : Nat) : xi_ok cX1_lettersOf (xi_71 pc) = true := rfl
def xi_72 (pc : Nat) : XIs := []
theorem xi_ok72 (pc : Nat) : xi_ok cX1_sendAll (xi_72 pc) = true := rfl
def xi_73 (pc : Nat) : XIs := []
theorem xi_ok73 (pc : Nat) : xi_ok cX1_draw (xi_73 pc) = true := rfl
def xi_74 (pc : Nat) : XIs := []
theorem xi_ok74 (pc : Nat) : xi_ok cX2_init (xi_74 pc) = true := rfl
def xi_75 (pc : Nat) : XIs := []
theorem xi_ok75 (pc : Nat) : xi_ok cX2_greatest (xi_75 pc) = true := rfl
def xi_76 (pc : Nat) : XIs := []
theorem xi_ok76 (pc : Nat) : xi_ok cX2_openAll (xi_76 pc) = true := rfl
def xi_77 (pc : Nat) : XIs := []
theorem xi_ok77 (pc : Nat) : xi_ok cX2_reach (xi_77 pc) = true := rfl
def xi_78 (pc : Nat) : XIs := []
theorem xi_ok78 (pc : Nat) : xi_ok cX2_push (xi_78 pc) = true := rfl
def xi_79 (pc : Nat) : XIs := []
theorem xi_ok79 (pc : Nat) : xi_ok cX2_cheapest (xi_79 pc) = true := rfl
def xi_80 (pc : Nat) : XIs := []
theorem xi_ok80 (pc : Nat) : xi_ok cX2_layArcs (xi_80 pc) = true := rfl
def xi_81 (pc : Nat) : XIs := []
theorem xi_ok81 (pc : Nat) : xi_ok cX2_turnEarners (xi_81 pc) = true := rfl
def xi_82 (pc : Nat) : XIs := []
theorem xi_ok82 (pc : Nat) : xi_ok cX2_turn (xi_82 pc) = true := rfl
def xi_83 (pc : Nat) : XIs := []
theorem xi_ok83 (pc : Nat) : xi_ok cX2_carryAll (xi_83 pc) = true := rfl
def xi_84 (pc : Nat) : XIs := []
theorem xi_ok84 (pc : Nat) : xi_ok cX2_lay (xi_84 pc) = true := rfl
def xi_85 (pc : Nat) : XIs := []
theorem xi_ok85 (pc : Nat) : xi_ok cX2_nearestLack (xi_85 pc) = true := rfl
def xi_86 (pc : Nat) : XIs := []
theorem xi_ok86 (pc : Nat) : xi_ok cX2_relaxAll (xi_86 pc) = true := rfl
def xi_87 (pc : Nat) : XIs := []
theorem xi_ok87 (pc : Nat) : xi_ok cX2_relaxPipe (xi_87 pc) = true := rfl
def xi_88 (pc : Nat) : XIs := []
theorem xi_ok88 (pc : Nat) : xi_ok cX2_carryTo (xi_88 pc) = true := rfl
def xi_89 (pc : Nat) : XIs := []
theorem xi_ok89 (pc : Nat) : xi_ok cX2_pair (xi_89 pc) = true := rfl
def xi_90 (pc : Nat) : XIs := []
theorem xi_ok90 (pc : Nat) : xi_ok cX2_isLow (xi_90 pc) = true := rfl
def xi_91 (pc : Nat) : XIs := []
theorem xi_ok91 (pc : Nat) : xi_ok cX3_init (xi_91 pc) = true := rfl
def xi_92 (pc : Nat) : XIs := []
theorem xi_ok92 (pc : Nat) : xi_ok cX3_clear (xi_92 pc) = true := rfl
def xi_93 (pc : Nat) : XIs := []
theorem xi_ok93 (pc : Nat) : xi_ok cX3_copyOf (xi_93 pc) = true := rfl
def xi_94 (pc : Nat) : XIs := []
theorem xi_ok94 (pc : Nat) : xi_ok cX3_hasNode (xi_94 pc) = true := rfl
def xi_95 (pc : Nat) : XIs := []
theorem xi_ok95 (pc : Nat) : xi_ok cX3_hasTwo (xi_95 pc) = true := rfl
def xi_96 (pc : Nat) : XIs := []
theorem xi_ok96 (pc : Nat) : xi_ok cX3_hasArc (xi_96 pc) = true := rfl
def xi_97 (pc : Nat) : XIs := []
theorem xi_ok97 (pc : Nat) : xi_ok cX3_isJoint (xi_97 pc) = true := rfl
def xi_98 (pc : Nat) : XIs := []
theorem xi_ok98 (pc : Nat) : xi_ok cX3_joints (xi_98 pc) = true := rfl
def xi_99 (pc : Nat) : XIs := []
theorem xi_ok99 (pc : Nat) : xi_ok cX3_countJoints (xi_99 pc) = true := rfl
def xi_100 (pc : Nat) : XIs := []
theorem xi_ok100 (pc : Nat) : xi_ok cX3_valueOf (xi_100 pc) = true := rfl
def xi_101 (pc : Nat) : XIs := []
theorem xi_ok101 (pc : Nat) : xi_ok cX3_freePlace (xi_101 pc) = true := rfl
def xi_102 (pc : Nat) : XIs := []
theorem xi_ok102 (pc : Nat) : xi_ok cX3_allNodes (xi_102 pc) = true := rfl
def xi_103 (pc : Nat) : XIs := []
theorem xi_ok103 (pc : Nat) : xi_ok cX3_outCount (xi_103 pc) = true := rfl
def xi_104 (pc : Nat) : XIs := []
theorem xi_ok104 (pc : Nat) : xi_ok cX3_inCount (xi_104 pc) = true := rfl
def xi_105 (pc : Nat) : XIs := []
theorem xi_ok105 (pc : Nat) : xi_ok cX3_dropAt (xi_105 pc) = true := rfl
def xi_106 (pc : Nat) : XIs := []
theorem xi_ok106 (pc : Nat) : xi_ok cX3_tie (xi_106 pc) = true := rfl
def xi_107 (pc : Nat) : XIs := []
theorem xi_ok107 (pc : Nat) : xi_ok cX3_tieEnds (xi_107 pc) = true := rfl
def xi_108 (pc : Nat) : XIs := []
theorem xi_ok108 (pc : Nat) : xi_ok cX4_init (xi_108 pc) = true := rfl
def xi_109 (pc : Nat) : XIs := []
theorem xi_ok109 (pc : Nat) : xi_ok cX4_unitsOf (xi_109 pc) = true := rfl
def xi_110 (pc : Nat) : XIs := []
theorem xi_ok110 (pc : Nat) : xi_ok cX4_shareOut (xi_110 pc) = true := rfl
def xi_111 (pc : Nat) : XIs := []
theorem xi_ok111 (pc : Nat) : xi_ok cX4_groupOf (xi_111 pc) = true := rfl
def xi_112 (pc : Nat) : XIs := []
theorem xi_ok112 (pc : Nat) : xi_ok cX4_totalGain (xi_112 pc) = true := rfl
def xi_113 (pc : Nat) : XIs := []
theorem xi_ok113 (pc : Nat) : xi_ok cX4_settle (xi_113 pc) = true := rfl
def xi_114 (pc : Nat) : XIs := []
theorem xi_ok114 (pc : Nat) : xi_ok cX4_begin (xi_114 pc) = true := rfl
def xi_115 (pc : Nat) : XIs := []
theorem xi_ok115 (pc : Nat) : xi_ok cX4_settleNode (xi_115 pc) = true := rfl
def xi_116 (pc : Nat) : XIs := []
theorem xi_ok116 (pc : Nat) : xi_ok cX4_isBetter (xi_116 pc) = true := rfl
def xi_117 (pc : Nat) : XIs := []
theorem xi_ok117 (pc : Nat) : xi_ok cX4_countLinks (xi_117 pc) = true := rfl
def xi_118 (pc : Nat) : XIs := []
theorem xi_ok118 (pc : Nat) : xi_ok cX4_score (xi_118 pc) = true := rfl
def xi_119 (pc : Nat) : XIs := []
theorem xi_ok119 (pc : Nat) : xi_ok cX4_freeGroup (xi_119 pc) = true := rfl
def xi_120 (pc : Nat) : XIs := []
theorem xi_ok120 (pc : Nat) : xi_ok cX4_moveTo (xi_120 pc) = true := rfl
def xi_121 (pc : Nat) : XIs := []
theorem xi_ok121 (pc : Nat) : xi_ok cX5_init (xi_121 pc) = true := rfl
def xi_122 (pc : Nat) : XIs := []
theorem xi_ok122 (pc : Nat) : xi_ok cX5_isFull (xi_122 pc) = true := rfl
def xi_123 (pc : Nat) : XIs := []
theorem xi_ok123 (pc : Nat) : xi_ok cX5_isGoodArc (xi_123 pc) = true := rfl
def xi_124 (pc : Nat) : XIs := []
theorem xi_ok124 (pc : Nat) : xi_ok cX5_addNode (xi_124 pc) = true := rfl
def xi_125 (pc : Nat) : XIs := []
theorem xi_ok125 (pc : Nat) : xi_ok cX5_addArc (xi_125 pc) = true := rfl
def xi_126 (pc : Nat) : XIs := []
theorem xi_ok126 (pc : Nat) : xi_ok cX5_dropArc (xi_126 pc) = true := rfl
def xi_127 (pc : Nat) : XIs := []
theorem xi_ok127 (pc : Nat) : xi_ok cX5_changeArc (xi_127 pc) = true := rfl
def xi_128 (pc : Nat) : XIs := []
theorem xi_ok128 (pc : Nat) : xi_ok cX5_relabel (xi_128 pc) = true := rfl
def xi_129 (pc : Nat) : XIs := []
theorem xi_ok129 (pc : Nat) : xi_ok cX5_note (xi_129 pc) = true := rfl
def xi_130 (pc : Nat) : XIs := []
theorem xi_ok130 (pc : Nat) : xi_ok cX5_openRow (xi_130 pc) = true := rfl
def xi_131 (pc : Nat) : XIs := []
theorem xi_ok131 (pc : Nat) : xi_ok cX5_apply (xi_131 pc) = true := rfl
def xi_132 (pc : Nat) : XIs := []
theorem xi_ok132 (pc : Nat) : xi_ok cX5_applyArc (xi_132 pc) = true := rfl
def xi_133 (pc : Nat) : XIs := []
theorem xi_ok133 (pc : Nat) : xi_ok cX5_applyValue (xi_133 pc) = true := rfl
def xi_134 (pc : Nat) : XIs := []
theorem xi_ok134 (pc : Nat) : xi_ok cX5_replay (xi_134 pc) = true := rfl
def xi_135 (pc : Nat) : XIs := []
theorem xi_ok135 (pc : Nat) : xi_ok cX5_carryOut (xi_135 pc) = true := rfl
def xi_136 (pc : Nat) : XIs := []
theorem xi_ok136 (pc : Nat) : xi_ok cX5_readCommand (xi_136 pc) = true := rfl
def xi_137 (pc : Nat) : XIs := []
theorem xi_ok137 (pc : Nat) : xi_ok cX5_shapeOf (xi_137 pc) = true := rfl
def xi_138 (pc : Nat) : XIs := []
theorem xi_ok138 (pc : Nat) : xi_ok cX5_doCommand (xi_138 pc) = true := rfl
def xi_139 (pc : Nat) : XIs := []
theorem xi_ok139 (pc : Nat) : xi_ok cX6_init (xi_139 pc) = true := rfl
def xi_140 (pc : Nat) : XIs := []
theorem xi_ok140 (pc : Nat) : xi_ok cX6_strongPart (xi_140 pc) = true := rfl
def xi_141 (pc : Nat) : XIs := []
theorem xi_ok141 (pc : Nat) : xi_ok cX6_weakPart (xi_141 pc) = true := rfl
def xi_142 (pc : Nat) : XIs := []
theorem xi_ok142 (pc : Nat) : xi_ok cX6_isBridge (xi_142 pc) = true := rfl
def xi_143 (pc : Nat) : XIs := []
theorem xi_ok143 (pc : Nat) : xi_ok cX6_isCut (xi_143 pc) = true := rfl
def xi_144 (pc : Nat) : XIs := []
theorem xi_ok144 (pc : Nat) : xi_ok cX6_ordered (xi_144 pc) = true := rfl
def xi_145 (pc : Nat) : XIs := []
theorem xi_ok145 (pc : Nat) : xi_ok cX6_makeOrder (xi_145 pc) = true := rfl
def xi_146 (pc : Nat) : XIs := []
theorem xi_ok146 (pc : Nat) : xi_ok cX6_firstFree (xi_146 pc) = true := rfl
def xi_147 (pc : Nat) : XIs := []
theorem xi_ok147 (pc : Nat) : xi_ok cX6_coreOf (xi_147 pc) = true := rfl
def xi_148 (pc : Nat) : XIs := []
theorem xi_ok148 (pc : Nat) : xi_ok cX6_peel (xi_148 pc) = true := rfl
def xi_149 (pc : Nat) : XIs := []
theorem xi_ok149 (pc : Nat) : xi_ok cX6_loosest (xi_149 pc) = true := rfl
def xi_150 (pc : Nat) : XIs := []
theorem xi_ok150 (pc : Nat) : xi_ok cX6_loosen (xi_150 pc) = true := rfl
def xi_151 (pc : Nat) : XIs := []
theorem xi_ok151 (pc : Nat) : xi_ok cX6_triangles (xi_151 pc) = true := rfl
def xi_152 (pc : Nat) : XIs := []
theorem xi_ok152 (pc : Nat) : xi_ok cX6_squares (xi_152 pc) = true := rfl
def xi_153 (pc : Nat) : XIs := []
theorem xi_ok153 (pc : Nat) : xi_ok cX7_init (xi_153 pc) = true := rfl
def xi_154 (pc : Nat) : XIs := []
theorem xi_ok154 (pc : Nat) : xi_ok cX7_adopt (xi_154 pc) = true := rfl
def xi_155 (pc : Nat) : XIs := []
theorem xi_ok155 (pc : Nat) : xi_ok cX7_isGood (xi_155 pc) = true := rfl
def xi_156 (pc : Nat) : XIs := []
theorem xi_ok156 (pc : Nat) : xi_ok cX7_judge (xi_156 pc) = true := rfl
def xi_157 (pc : Nat) : XIs := []
theorem xi_ok157 (pc : Nat) : xi_ok cX7_isAtom (xi_157 pc) = true := rfl
def xi_158 (pc : Nat) : XIs := []
theorem xi_ok158 (pc : Nat) : xi_ok cX7_build (xi_158 pc) = true := rfl
def xi_159 (pc : Nat) : XIs := []
theorem xi_ok159 (pc : Nat) : xi_ok cX7_closeBars (xi_159 pc) = true := rfl
def xi_160 (pc : Nat) : XIs := []
theorem xi_ok160 (pc : Nat) : xi_ok cX7_layPlace (xi_160 pc) = true := rfl
def xi_161 (pc : Nat) : XIs := []
theorem xi_ok161 (pc : Nat) : xi_ok cX7_layRepeat (xi_161 pc) = true := rfl
def xi_162 (pc : Nat) : XIs := []
theorem xi_ok162 (pc : Nat) : xi_ok cX7_close (xi_162 pc) = true := rfl
def xi_163 (pc : Nat) : XIs := []
theorem xi_ok163 (pc : Nat) : xi_ok cX7_leastFit (xi_163 pc) = true := rfl
def xi_164 (pc : Nat) : XIs := []
theorem xi_ok164 (pc : Nat) : xi_ok cX7_step (xi_164 pc) = true := rfl
def xi_165 (pc : Nat) : XIs := []
theorem xi_ok165 (pc : Nat) : xi_ok cX7_behind (xi_165 pc) = true := rfl
def xi_166 (pc : Nat) : XIs := []
theorem xi_ok166 (pc : Nat) : xi_ok cX8_init (xi_166 pc) = true := rfl
def xi_167 (pc : Nat) : XIs := []
theorem xi_ok167 (pc : Nat) : xi_ok cX8_begin (xi_167 pc) = true := rfl
def xi_168 (pc : Nat) : XIs := []
theorem xi_ok168 (pc : Nat) : xi_ok cX8_accuse (xi_168 pc) = true := rfl
def xi_169 (pc : Nat) : XIs := []
theorem xi_ok169 (pc : Nat) : xi_ok cX8_refuse (xi_169 pc) = true := rfl
def xi_170 (pc : Nat) : XIs := []
theorem xi_ok170 (pc : Nat) : xi_ok cX8_isAt (xi_170 pc) = true := rfl
def xi_171 (pc : Nat) : XIs := []
theorem xi_ok171 (pc : Nat) : xi_ok cX8_next (xi_171 pc) = true := rfl
def xi_172 (pc : Nat) : XIs := []
theorem xi_ok172 (pc : Nat) : xi_ok cX8_isDigit (xi_172 pc) = true := rfl
def xi_173 (pc : Nat) : XIs := []
theorem xi_ok173 (pc : Nat) : xi_ok cX8_readNumber (xi_173 pc) = true := rfl
def xi_174 (pc : Nat) : XIs := []
theorem xi_ok174 (pc : Nat) : xi_ok cX8_isSign (xi_174 pc) = true := rfl
def xi_175 (pc : Nat) : XIs := []
theorem xi_ok175 (pc : Nat) : xi_ok cX8_write (xi_175 pc) = true := rfl
def xi_176 (pc : Nat) : XIs := []
theorem xi_ok176 (pc : Nat) : xi_ok cX8_endCommand (xi_176 pc) = true := rfl
def xi_177 (pc : Nat) : XIs := []
theorem xi_ok177 (pc : Nat) : xi_ok cX8_put (xi_177 pc) = true := rfl
def xi_178 (pc : Nat) : XIs := []
theorem xi_ok178 (pc : Nat) : xi_ok cX8_putNumber (xi_178 pc) = true := rfl
def xi_179 (pc : Nat) : XIs := []
theorem xi_ok179 (pc : Nat) : xi_ok cX9_init (xi_179 pc) = true := rfl
def xi_180 (pc : Nat) : XIs := []
theorem xi_ok180 (pc : Nat) : xi_ok cX9_leastRooted (xi_180 pc) = true := rfl
def xi_181 (pc : Nat) : XIs := []
theorem xi_ok181 (pc : Nat) : xi_ok cX9_copyArcs (xi_181 pc) = true := rfl
def xi_182 (pc : Nat) : XIs := []
theorem xi_ok182 (pc : Nat) : xi_ok cX9_takeCheapest (xi_182 pc) = true := rfl
def xi_183 (pc : Nat) : XIs := []
theorem xi_ok183 (pc : Nat) : xi_ok cX9_nameRings (xi_183 pc) = true := rfl
def xi_184 (pc : Nat) : XIs := []
theorem xi_ok184 (pc : Nat) : xi_ok cX9_nameOthers (xi_184 pc) = true := rfl
def xi_185 (pc : Nat) : XIs := []
theorem xi_ok185 (pc : Nat) : xi_ok cX9_shrinkRings (xi_185 pc) = true := rfl
def xi_186 (pc : Nat) : XIs := []
theorem xi_ok186 (pc : Nat) : xi_ok cX9_isSpanning (xi_186 pc) = true := rfl
def xi_187 (pc : Nat) : XIs := []
theorem xi_ok187 (pc : Nat) : xi_ok cX9_isBefore (xi_187 pc) = true := rfl
def xi_188 (pc : Nat) : XIs := []
theorem xi_ok188 (pc : Nat) : xi_ok cX9_countSpanning (xi_188 pc) = true := rfl
def xi_189 (pc : Nat) : XIs := []
theorem xi_ok189 (pc : Nat) : xi_ok cX9_countTrees (xi_189 pc) = true := rfl
def xi_190 (pc : Nat) : XIs := []
theorem xi_ok190 (pc : Nat) : xi_ok cX9_pivot (xi_190 pc) = true := rfl
def xi_191 (pc : Nat) : XIs := []
theorem xi_ok191 (pc : Nat) : xi_ok cX9_swapRows (xi_191 pc) = true := rfl
def xi_192 (pc : Nat) : XIs := []
theorem xi_ok192 (pc : Nat) : xi_ok cX9_power (xi_192 pc) = true := rfl
def xi_193 (pc : Nat) : XIs := []
theorem xi_ok193 (pc : Nat) : xi_ok cX10_init (xi_193 pc) = true := rfl
def xi_194 (pc : Nat) : XIs := []
theorem xi_ok194 (pc : Nat) : xi_ok cX10_leastWeight (xi_194 pc) = true := rfl
def xi_195 (pc : Nat) : XIs := []
theorem xi_ok195 (pc : Nat) : xi_ok cX10_leastArc (xi_195 pc) = true := rfl
def xi_196 (pc : Nat) : XIs := []
theorem xi_ok196 (pc : Nat) : xi_ok cX10_stepFrom (xi_196 pc) = true := rfl
def xi_197 (pc : Nat) : XIs := []
theorem xi_ok197 (pc : Nat) : xi_ok cX10_costOf (xi_197 pc) = true := rfl
def xi_198 (pc : Nat) : XIs := []
theorem xi_ok198 (pc : Nat) : xi_ok cX10_measure (xi_198 pc) = true := rfl
def xi_199 (pc : Nat) : XIs := []
theorem xi_ok199 (pc : Nat) : xi_ok cX10_relax (xi_199 pc) = true := rfl
def xi_200 (pc : Nat) : XIs := []
theorem xi_ok200 (pc : Nat) : xi_ok cX10_widest (xi_200 pc) = true := rfl
def xi_201 (pc : Nat) : XIs := []
theorem xi_ok201 (pc : Nat) : xi_ok cX10_widestOf (xi_201 pc) = true := rfl
def xi_202 (pc : Nat) : XIs := []
theorem xi_ok202 (pc : Nat) : xi_ok cX10_fewestArcs (xi_202 pc) = true := rfl
def xi_203 (pc : Nat) : XIs := []
theorem xi_ok203 (pc : Nat) : xi_ok cX10_countBy (xi_203 pc) = true := rfl
def xi_204 (pc : Nat) : XIs := []
theorem xi_ok204 (pc : Nat) : xi_ok cX10_spread (xi_204 pc) = true := rfl
def xi_205 (pc : Nat) : XIs := []
theorem xi_ok205 (pc : Nat) : xi_ok cX10_countShort (xi_205 pc) = true := rfl
def xi_206 (pc : Nat) : XIs := []
theorem xi_ok206 (pc : Nat) : xi_ok cX10_arcOfShort (xi_206 pc) = true := rfl
def xi_207 (pc : Nat) : XIs := []
theorem xi_ok207 (pc : Nat) : xi_ok cX10_collect (xi_207 pc) = true := rfl
def xi_208 (pc : Nat) : XIs := []
theorem xi_ok208 (pc : Nat) : xi_ok cX10_gather (xi_208 pc) = true := rfl
def xi_209 (pc : Nat) : XIs := []
theorem xi_ok209 (pc : Nat) : xi_ok cX10_leads (xi_209 pc) = true := rfl
def xi_210 (pc : Nat) : XIs := []
theorem xi_ok210 (pc : Nat) : xi_ok cX10_sortKeys (xi_210 pc) = true := rfl
def xi_211 (pc : Nat) : XIs := []
theorem xi_ok211 (pc : Nat) : xi_ok cX11_init (xi_211 pc) = true := rfl
def xi_212 (pc : Nat) : XIs := []
theorem xi_ok212 (pc : Nat) : xi_ok cX11_node (xi_212 pc) = true := rfl
def xi_213 (pc : Nat) : XIs := []
theorem xi_ok213 (pc : Nat) : xi_ok cX11_arc (xi_213 pc) = true := rfl
def xi_214 (pc : Nat) : XIs := []
theorem xi_ok214 (pc : Nat) : xi_ok cX11_take (xi_214 pc) = true := rfl
def xi_215 (pc : Nat) : XIs := []
theorem xi_ok215 (pc : Nat) : xi_ok cX11_set (xi_215 pc) = true := rfl
def xi_216 (pc : Nat) : XIs := []
theorem xi_ok216 (pc : Nat) : xi_ok cX11_label (xi_216 pc) = true := rfl
def xi_217 (pc : Nat) : XIs := []
theorem xi_ok217 (pc : Nat) : xi_ok cX11_view (xi_217 pc) = true := rfl
def xi_218 (pc : Nat) : XIs := []
theorem xi_ok218 (pc : Nat) : xi_ok cX11_version (xi_218 pc) = true := rfl
def xi_219 (pc : Nat) : XIs := []
theorem xi_ok219 (pc : Nat) : xi_ok cX11_size (xi_219 pc) = true := rfl
def xi_220 (pc : Nat) : XIs := []
theorem xi_ok220 (pc : Nat) : xi_ok cX11_told (xi_220 pc) = true := rfl
def xi_221 (pc : Nat) : XIs := []
theorem xi_ok221 (pc : Nat) : xi_ok cX11_labelOf (xi_221 pc) = true := rfl
def xi_222 (pc : Nat) : XIs := []
theorem xi_ok222 (pc : Nat) : xi_ok cX11_arcAt (xi_222 pc) = true := rfl
def xi_223 (pc : Nat) : XIs := []
theorem xi_ok223 (pc : Nat) : xi_ok cX11_type (xi_223 pc) = true := rfl
def xi_224 (pc : Nat) : XIs := []
theorem xi_ok224 (pc : Nat) : xi_ok cX11_wipe (xi_224 pc) = true := rfl
def xi_225 (pc : Nat) : XIs := []
theorem xi_ok225 (pc : Nat) : xi_ok cX11_load (xi_225 pc) = true := rfl
def xi_226 (pc : Nat) : XIs := []
theorem xi_ok226 (pc : Nat) : xi_ok cX11_fault (xi_226 pc) = true := rfl
def xi_227 (pc : Nat) : XIs := []
theorem xi_ok227 (pc : Nat) : xi_ok cX11_print (xi_227 pc) = true := rfl
def xi_228 (pc : Nat) : XIs := []
theorem xi_ok228 (pc : Nat) : xi_ok cX11_printed (xi_228 pc) = true := rfl
def xi_229 (pc : Nat) : XIs := []
theorem xi_ok229 (pc : Nat) : xi_ok cX11_distance (xi_229 pc) = true := rfl
def xi_230 (pc : Nat) : XIs := []
theorem xi_ok230 (pc : Nat) : xi_ok cX11_way (xi_230 pc) = true := rfl
def xi_231 (pc : Nat) : XIs := []
theorem xi_ok231 (pc : Nat) : xi_ok cX11_width (xi_231 pc) = true := rfl
def xi_232 (pc : Nat) : XIs := []
theorem xi_ok232 (pc : Nat) : xi_ok cX11_shorts (xi_232 pc) = true := rfl
def xi_233 (pc : Nat) : XIs := []
theorem xi_ok233 (pc : Nat) : xi_ok cX11_shortArc (xi_233 pc) = true := rfl
def xi_234 (pc : Nat) : XIs := []
theorem xi_ok234 (pc : Nat) : xi_ok cX11_part (xi_234 pc) = true := rfl
def xi_235 (pc : Nat) : XIs := []
theorem xi_ok235 (pc : Nat) : xi_ok cX11_bridge (xi_235 pc) = true := rfl
def xi_236 (pc : Nat) : XIs := []
theorem xi_ok236 (pc : Nat) : xi_ok cX11_cut (xi_236 pc) = true := rfl
def xi_237 (pc : Nat) : XIs := []
theorem xi_ok237 (pc : Nat) : xi_ok cX11_order (xi_237 pc) = true := rfl
def xi_238 (pc : Nat) : XIs := []
theorem xi_ok238 (pc : Nat) : xi_ok cX11_core (xi_238 pc) = true := rfl
def xi_239 (pc : Nat) : XIs := []
theorem xi_ok239 (pc : Nat) : xi_ok cX11_clique (xi_239 pc) = true := rfl
def xi_240 (pc : Nat) : XIs := []
theorem xi_ok240 (pc : Nat) : xi_ok cX11_colour (xi_240 pc) = true := rfl
def xi_241 (pc : Nat) : XIs := []
theorem xi_ok241 (pc : Nat) : xi_ok cX11_flow (xi_241 pc) = true := rfl
def xi_242 (pc : Nat) : XIs := []
theorem xi_ok242 (pc : Nat) : xi_ok cX11_side (xi_242 pc) = true := rfl
def xi_243 (pc : Nat) : XIs := []
theorem xi_ok243 (pc : Nat) : xi_ok cX11_cost (xi_243 pc) = true := rfl
def xi_244 (pc : Nat) : XIs := []
theorem xi_ok244 (pc : Nat) : xi_ok cX11_pairing (xi_244 pc) = true := rfl
def xi_245 (pc : Nat) : XIs := []
theorem xi_ok245 (pc : Nat) : xi_ok cX11_tree (xi_245 pc) = true := rfl
def xi_246 (pc : Nat) : XIs := []
theorem xi_ok246 (pc : Nat) : xi_ok cX11_span (xi_246 pc) = true := rfl
def xi_247 (pc : Nat) : XIs := []
theorem xi_ok247 (pc : Nat) : xi_ok cX11_trees (xi_247 pc) = true := rfl
def xi_248 (pc : Nat) : XIs := []
theorem xi_ok248 (pc : Nat) : xi_ok cX11_rank (xi_248 pc) = true := rfl
def xi_249 (pc : Nat) : XIs := []
theorem xi_ok249 (pc : Nat) : xi_ok cX11_shortest (xi_249 pc) = true := rfl
def xi_250 (pc : Nat) : XIs := []
theorem xi_ok250 (pc : Nat) : xi_ok cX11_group (xi_250 pc) = true := rfl
def xi_251 (pc : Nat) : XIs := []
theorem xi_ok251 (pc : Nat) : xi_ok cX11_gain (xi_251 pc) = true := rfl
def xi_252 (pc : Nat) : XIs := []
theorem xi_ok252 (pc : Nat) : xi_ok cX11_figures (xi_252 pc) = true := rfl
def xi_253 (pc : Nat) : XIs := []
theorem xi_ok253 (pc : Nat) : xi_ok cX11_pattern (xi_253 pc) = true := rfl
def xi_254 (pc : Nat) : XIs := []
theorem xi_ok254 (pc : Nat) : xi_ok cX11_fits (xi_254 pc) = true := rfl
def xi_255 (pc : Nat) : XIs := []
theorem xi_ok255 (pc : Nat) : xi_ok cX11_program (xi_255 pc) = true := rfl
def xi_256 (pc : Nat) : XIs := []
theorem xi_ok256 (pc : Nat) : xi_ok cX11_run (xi_256 pc) = true := rfl
def xi_257 (pc : Nat) : XIs := []
theorem xi_ok257 (pc : Nat) : xi_ok cX11_state (xi_257 pc) = true := rfl
def xi_258 (pc : Nat) : XIs := []
theorem xi_ok258 (pc : Nat) : xi_ok cX11_letters (xi_258 pc) = true := rfl
def xi_259 (pc : Nat) : XIs := []
theorem xi_ok259 (pc : Nat) : xi_ok cX11_graph (xi_259 pc) = true := rfl
def xi_260 (pc : Nat) : XIs := []
theorem xi_ok260 (pc : Nat) : xi_ok cX11_isLetter (xi_260 pc) = true := rfl
def xi_261 (pc : Nat) : XIs := []
theorem xi_ok261 (pc : Nat) : xi_ok cX11_isWeight (xi_261 pc) = true := rfl
def xi_262 (pc : Nat) : XIs := []
theorem xi_ok262 (pc : Nat) : xi_ok cX11_isRoom (xi_262 pc) = true := rfl
def xi_263 (pc : Nat) : XIs := []
theorem xi_ok263 (pc : Nat) : xi_ok cX11_isGoodValue (xi_263 pc) = true := rfl
def xi_264 (pc : Nat) : XIs := []
theorem xi_ok264 (pc : Nat) : xi_ok cX11_lowest (xi_264 pc) = true := rfl
def xi_265 (pc : Nat) : XIs := []
theorem xi_ok265 (pc : Nat) : xi_ok cX11_lowestOfLong (xi_265 pc) = true := rfl
def xi_266 (pc : Nat) : XIs := []
theorem xi_ok266 (pc : Nat) : xi_ok cX11_flood (xi_266 pc) = true := rfl
def xi_267 (pc : Nat) : XIs := []
theorem xi_ok267 (pc : Nat) : xi_ok cX12_init (xi_267 pc) = true := rfl
def xi_268_0 : XIs := [(0, .aload_n 0, 1), (1, .getfield 278, 3), (4, .ireturn, 1)]
set_option maxRecDepth 100000 in
theorem xi_ok268_0 : xi_ok cX12_thrown xi_268_0 = true := by decide +kernel
def xi_268 (pc : Nat) : XIs := xi_268_0
theorem xi_ok268 (pc : Nat) : xi_ok cX12_thrown (xi_268 pc) = true := xi_ok268_0
def xi_269_0 : XIs := [(0, .lload_n 0, 1), (1, .lload_n 2, 1), (2, .lcmp, 1), (3, .ifCond .lt 14, 3), (6, .lload_n 0, 1), (7, .lload 4, 2), (9, .lcmp, 1), (10, .ifCond .gt 7, 3), (13, .iconst 1, 1), (14, .goto 4, 3), (17, .iconst 0, 1), (18, .ireturn, 1)]
set_option maxRecDepth 100000 in
theorem xi_ok269_0 : xi_ok cX12_in xi_269_0 = true := by decide +kernel
def xi_269 (pc : Nat) : XIs := xi_269_0
theorem xi_ok269 (pc : Nat) : xi_ok cX12_in (xi_269 pc) = true := xi_ok269_0
def xi_270_0 : XIs := [(0, .aload_n 0, 1), (1, .iload_n 1, 1), (2, .ifCond .ne 7, 3), (5, .iconst 1, 1), (6, .goto 12, 3), (9, .iload_n 2, 1), (10, .ifCond .ne 7, 3), (13, .iconst 2, 1), (14, .goto 4, 3), (17, .iconst 0, 1), (18, .putfield 278, 3), (21, .aload_n 0, 1), (22, .getfield 278, 3), (25, .ifCond .le 7, 3), (28, .iconst 1, 1), (29, .goto 4, 3)]
set_option maxRecDepth 100000 in
theorem xi_ok270_0 : xi_ok cX12_fails xi_270_0 = true := by decide +kernel
def xi_270_1 : XIs := [(32, .iconst 0, 1), (33, .ireturn, 1)]
set_option maxRecDepth 100000 in
theorem xi_ok270_1 : xi_ok cX12_fails xi_270_1 = true := by decide +kernel
def xi_270 (pc : Nat) : XIs := cond (Nat.blt pc 32) (xi_270_0) (xi_270_1)
theorem xi_ok270 (pc : Nat) : xi_ok cX12_fails (xi_270 pc) = true := xi_c (xi_ok270_0) (xi_ok270_1)
def xi_271_0 : XIs := [(0, .aload_n 0, 1), (1, .iload_n 1, 1), (2, .iconst 1, 1), (3, .invokevirtual 281, 3), (6, .ireturn, 1)]
set_option maxRecDepth 100000 in
theorem xi_ok271_0 : xi_ok cX12_wrongArgument xi_271_0 = true := by decide +kernel
def xi_271 (pc : Nat) : XIs := xi_271_0
theorem xi_ok271 (pc : Nat) : xi_ok cX12_wrongArgument (xi_271 pc) = true := xi_ok271_0
def xi_272_0 : XIs := [(0, .iload_n 1, 1), (1, .ifCond .lt 15, 3), (4, .iload_n 1, 1), (5, .aload_n 0, 1), (6, .getfield 285, 3), (9, .if_icmp .ge 7, 3), (12, .iconst 1, 1), (13, .goto 4, 3), (16, .iconst 0, 1), (17, .ireturn, 1)]
set_option maxRecDepth 100000 in
theorem xi_ok272_0 : xi_ok cX12_isNode xi_272_0 = true := by decide +kernel
def xi_272 (pc : Nat) : XIs := xi_272_0
theorem xi_ok272 (pc : Nat) : xi_ok cX12_isNode (xi_272 pc) = true := xi_ok272_0
def xi_273_0 : XIs := [(0, .iload_n 1, 1), (1, .ifCond .lt 28, 3), (4, .iload_n 1, 1), (5, .sipush 160, 3), (8, .if_icmp .ge 21, 3), (11, .aload_n 0, 1), (12, .getfield 16, 3), (15, .aload_n 0, 1), (16, .getfield 288, 3), (19, .iload_n 1, 1), (20, .iadd, 1), (21, .baload, 1), (22, .ifCond .eq 7, 3), (25, .iconst 1, 1), (26, .goto 4, 3), (29, .iconst 0, 1)]
set_option maxRecDepth 100000 in
theorem xi_ok273_0 : xi_ok cX12_isArc xi_273_0 = true := by decide +kernel
def xi_273_1 : XIs := [(30, .ireturn, 1)]
set_option maxRecDepth 100000 in
theorem xi_ok273_1 : xi_ok cX12_isArc xi_273_1 = true := by decide +kernel
def xi_273 (pc : Nat) : XIs := cond (Nat.blt pc 30) (xi_273_0) (xi_273_1)
theorem xi_ok273 (pc : Nat) : xi_ok cX12_isArc (xi_273 pc) = true := xi_c (xi_ok273_0) (xi_ok273_1)
def xi_274_0 : XIs := [(0, .aload_n 0, 1), (1, .getfield 35, 3), (4, .aload_n 0, 1), (5, .getfield 291, 3), (8, .iload_n 1, 1), (9, .iastore, 1), (10, .aload_n 0, 1), (11, .getfield 38, 3), (14, .aload_n 0, 1), (15, .getfield 291, 3), (18, .iload_n 2, 1), (19, .iastore, 1), (20, .aload_n 0, 1), (21, .getfield 41, 3), (24, .aload_n 0, 1), (25, .getfield 291, 3)]
set_option maxRecDepth 100000 in
theorem xi_ok274_0 : xi_ok cX12_make xi_274_0 = true := by decide +kernel
def xi_274_1 : XIs := [(28, .iload_n 3, 1), (29, .iastore, 1), (30, .aload_n 0, 1), (31, .getfield 44, 3), (34, .aload_n 0, 1), (35, .getfield 291, 3), (38, .iload 4, 2), (40, .iastore, 1), (41, .aload_n 0, 1), (42, .getfield 47, 3), (45, .aload_n 0, 1), (46, .getfield 291, 3), (49, .iload 5, 2), (51, .iastore, 1), (52, .aload_n 0, 1), (53, .getfield 50, 3)]
set_option maxRecDepth 100000 in
theorem xi_ok274_1 : xi_ok cX12_make xi_274_1 = true := by decide +kernel
def xi_274_2 : XIs := [(56, .aload_n 0, 1), (57, .getfield 291, 3), (60, .iload 6, 2), (62, .iastore, 1), (63, .aload_n 0, 1), (64, .getfield 53, 3), (67, .aload_n 0, 1), (68, .getfield 291, 3), (71, .iload 7, 2), (73, .iastore, 1), (74, .aload_n 0, 1), (75, .aload_n 0, 1), (76, .getfield 291, 3), (79, .iconst 0, 1), (80, .invokevirtual 294, 3), (83, .aload_n 0, 1)]
set_option maxRecDepth 100000 in
theorem xi_ok274_2 : xi_ok cX12_make xi_274_2 = true := by decide +kernel
def xi_274_3 : XIs := [(84, .dup, 1), (85, .getfield 291, 3), (88, .iconst 1, 1), (89, .iadd, 1), (90, .putfield 291, 3), (93, .aload_n 0, 1), (94, .invokevirtual 298, 3), (97, .return_, 1)]
set_option maxRecDepth 100000 in
theorem xi_ok274_3 : xi_ok cX12_make xi_274_3 = true := by decide +kernel
def xi_274 (pc : Nat) : XIs := cond (Nat.blt pc 56) (cond (Nat.blt pc 28) (xi_274_0) (xi_274_1)) (cond (Nat.blt pc 84) (xi_274_2) (xi_274_3))
theorem xi_ok274 (pc : Nat) : xi_ok cX12_make (xi_274 pc) = true := xi_c (xi_c (xi_ok274_0) (xi_ok274_1)) (xi_c (xi_ok274_2) (xi_ok274_3))
def xi_275_0 : XIs := [(0, .sipush 160, 3), (3, .iload_n 2, 1), (4, .imul, 1), (5, .aload_n 0, 1), (6, .getfield 38, 3), (9, .iload_n 1, 1), (10, .iaload, 1), (11, .iadd, 1), (12, .istore_n 3, 1), (13, .aload_n 0, 1), (14, .getfield 35, 3), (17, .iload_n 1, 1), (18, .iaload, 1), (19, .tableswitch 208 0 3 #[29, 64, 134, 144], 29), (48, .aload_n 0, 1), (49, .getfield 13, 3)]
set_option maxRecDepth 100000 in
theorem xi_ok275_0 : xi_ok cX12_apply xi_275_0 = true := by decide +kernel
def xi_275_1 : XIs := [(52, .bipush 32, 2), (54, .iload_n 2, 1), (55, .imul, 1), (56, .aload_n 0, 1), (57, .getfield 7, 3), (60, .iload_n 2, 1), (61, .iaload, 1), (62, .iadd, 1), (63, .aload_n 0, 1), (64, .getfield 38, 3), (67, .iload_n 1, 1), (68, .iaload, 1), (69, .iastore, 1), (70, .aload_n 0, 1), (71, .getfield 7, 3), (74, .iload_n 2, 1)]
set_option maxRecDepth 100000 in
theorem xi_ok275_1 : xi_ok cX12_apply xi_275_1 = true := by decide +kernel
def xi_275_2 : XIs := [(75, .dup2, 1), (76, .iaload, 1), (77, .iconst 1, 1), (78, .iadd, 1), (79, .iastore, 1), (80, .goto 169, 3), (83, .aload_n 0, 1), (84, .getfield 16, 3), (87, .iload_n 3, 1), (88, .iconst 1, 1), (89, .bastore, 1), (90, .aload_n 0, 1), (91, .getfield 20, 3), (94, .iload_n 3, 1), (95, .aload_n 0, 1), (96, .getfield 41, 3)]
set_option maxRecDepth 100000 in
theorem xi_ok275_2 : xi_ok cX12_apply xi_275_2 = true := by decide +kernel
def xi_275_3 : XIs := [(99, .iload_n 1, 1), (100, .iaload, 1), (101, .iastore, 1), (102, .aload_n 0, 1), (103, .getfield 23, 3), (106, .iload_n 3, 1), (107, .aload_n 0, 1), (108, .getfield 44, 3), (111, .iload_n 1, 1), (112, .iaload, 1), (113, .iastore, 1), (114, .aload_n 0, 1), (115, .getfield 26, 3), (118, .iload_n 3, 1), (119, .aload_n 0, 1), (120, .getfield 47, 3)]
set_option maxRecDepth 100000 in
theorem xi_ok275_3 : xi_ok cX12_apply xi_275_3 = true := by decide +kernel
def xi_275_4 : XIs := [(123, .iload_n 1, 1), (124, .iaload, 1), (125, .iastore, 1), (126, .aload_n 0, 1), (127, .getfield 29, 3), (130, .iload_n 3, 1), (131, .aload_n 0, 1), (132, .getfield 50, 3), (135, .iload_n 1, 1), (136, .iaload, 1), (137, .iastore, 1), (138, .aload_n 0, 1), (139, .getfield 32, 3), (142, .iload_n 3, 1), (143, .aload_n 0, 1), (144, .getfield 53, 3)]
set_option maxRecDepth 100000 in
theorem xi_ok275_4 : xi_ok cX12_apply xi_275_4 = true := by decide +kernel
def xi_275_5 : XIs := [(147, .iload_n 1, 1), (148, .iaload, 1), (149, .iastore, 1), (150, .goto 99, 3), (153, .aload_n 0, 1), (154, .getfield 16, 3), (157, .iload_n 3, 1), (158, .iconst 0, 1), (159, .bastore, 1), (160, .goto 89, 3), (163, .aload_n 0, 1), (164, .getfield 41, 3), (167, .iload_n 1, 1), (168, .iaload, 1), (169, .ifCond .ne 18, 3), (172, .aload_n 0, 1)]
set_option maxRecDepth 100000 in
theorem xi_ok275_5 : xi_ok cX12_apply xi_275_5 = true := by decide +kernel
def xi_275_6 : XIs := [(173, .getfield 26, 3), (176, .iload_n 3, 1), (177, .aload_n 0, 1), (178, .getfield 44, 3), (181, .iload_n 1, 1), (182, .iaload, 1), (183, .iastore, 1), (184, .goto 65, 3), (187, .aload_n 0, 1), (188, .getfield 41, 3), (191, .iload_n 1, 1), (192, .iaload, 1), (193, .iconst 1, 1), (194, .if_icmp .ne 18, 3), (197, .aload_n 0, 1), (198, .getfield 29, 3)]
set_option maxRecDepth 100000 in
theorem xi_ok275_6 : xi_ok cX12_apply xi_275_6 = true := by decide +kernel
def xi_275_7 : XIs := [(201, .iload_n 3, 1), (202, .aload_n 0, 1), (203, .getfield 44, 3), (206, .iload_n 1, 1), (207, .iaload, 1), (208, .iastore, 1), (209, .goto 40, 3), (212, .aload_n 0, 1), (213, .getfield 32, 3), (216, .iload_n 3, 1), (217, .aload_n 0, 1), (218, .getfield 44, 3), (221, .iload_n 1, 1), (222, .iaload, 1), (223, .iastore, 1), (224, .goto 25, 3)]
set_option maxRecDepth 100000 in
theorem xi_ok275_7 : xi_ok cX12_apply xi_275_7 = true := by decide +kernel
def xi_275_8 : XIs := [(227, .aload_n 0, 1), (228, .getfield 13, 3), (231, .bipush 32, 2), (233, .iload_n 2, 1), (234, .imul, 1), (235, .aload_n 0, 1), (236, .getfield 38, 3), (239, .iload_n 1, 1), (240, .iaload, 1), (241, .iadd, 1), (242, .aload_n 0, 1), (243, .getfield 41, 3), (246, .iload_n 1, 1), (247, .iaload, 1), (248, .iastore, 1), (249, .return_, 1)]
set_option maxRecDepth 100000 in
theorem xi_ok275_8 : xi_ok cX12_apply xi_275_8 = true := by decide +kernel
def xi_275 (pc : Nat) : XIs := cond (Nat.blt pc 123) (cond (Nat.blt pc 75) (cond (Nat.blt pc 52) (xi_275_0) (xi_275_1)) (cond (Nat.blt pc 99) (xi_275_2) (xi_275_3))) (cond (Nat.blt pc 173) (cond (Nat.blt pc 147) (xi_275_4) (xi_275_5)) (cond (Nat.blt pc 201) (xi_275_6) (cond (Nat.blt pc 227) (xi_275_7) (xi_275_8))))
theorem xi_ok275 (pc : Nat) : xi_ok cX12_apply (xi_275 pc) = true := xi_c (xi_c (xi_c (xi_ok275_0) (xi_ok275_1)) (xi_c (xi_ok275_2) (xi_ok275_3))) (xi_c (xi_c (xi_ok275_4) (xi_ok275_5)) (xi_c (xi_ok275_6) (xi_c (xi_ok275_7) (xi_ok275_8))))
def xi_276_0 : XIs := [(0, .aload_n 0, 1), (1, .aload_n 0, 1), (2, .getfield 56, 3), (5, .ifCond .ge 7, 3), (8, .iconst 0, 1), (9, .goto 4, 3), (12, .iconst 1, 1), (13, .putfield 301, 3), (16, .aload_n 0, 1), (17, .sipush 160, 3), (20, .aload_n 0, 1), (21, .getfield 301, 3), (24, .imul, 1), (25, .putfield 288, 3), (28, .aload_n 0, 1), (29, .aload_n 0, 1)]
set_option maxRecDepth 100000 in
theorem xi_ok276_0 : xi_ok cX12_look xi_276_0 = true := by decide +kernel
def xi_276_1 : XIs := [(30, .getfield 7, 3), (33, .aload_n 0, 1), (34, .getfield 301, 3), (37, .iaload, 1), (38, .putfield 285, 3), (41, .return_, 1)]
set_option maxRecDepth 100000 in
theorem xi_ok276_1 : xi_ok cX12_look xi_276_1 = true := by decide +kernel
def xi_276 (pc : Nat) : XIs := cond (Nat.blt pc 30) (xi_276_0) (xi_276_1)
theorem xi_ok276 (pc : Nat) : xi_ok cX12_look (xi_276 pc) = true := xi_c (xi_ok276_0) (xi_ok276_1)
def xi_277_0 : XIs := [(0, .iload_n 1, 1), (1, .ifCond .lt 17, 3), (4, .iload_n 1, 1), (5, .aload_n 0, 1), (6, .getfield 7, 3), (9, .iconst 0, 1), (10, .iaload, 1), (11, .if_icmp .ge 7, 3), (14, .iconst 1, 1), (15, .goto 4, 3), (18, .iconst 0, 1), (19, .ireturn, 1)]
set_option maxRecDepth 100000 in
theorem xi_ok277_0 : xi_ok cX12_isNewNode xi_277_0 = true := by decide +kernel
def xi_277 (pc : Nat) : XIs := xi_277_0
theorem xi_ok277 (pc : Nat) : xi_ok cX12_isNewNode (xi_277 pc) = true := xi_ok277_0
def xi_278_0 : XIs := [(0, .iload_n 1, 1), (1, .ifCond .lt 23, 3), (4, .iload_n 1, 1), (5, .sipush 160, 3), (8, .if_icmp .ge 16, 3), (11, .aload_n 0, 1), (12, .getfield 16, 3), (15, .iload_n 1, 1), (16, .baload, 1), (17, .ifCond .eq 7, 3), (20, .iconst 1, 1), (21, .goto 4, 3), (24, .iconst 0, 1), (25, .ireturn, 1)]
set_option maxRecDepth 100000 in
theorem xi_ok278_0 : xi_ok cX12_isNewArc xi_278_0 = true := by decide +kernel
def xi_278 (pc : Nat) : XIs := xi_278_0
theorem xi_ok278 (pc : Nat) : xi_ok cX12_isNewArc (xi_278 pc) = true := xi_ok278_0
def xi_279_0 : XIs := [(0, .iload_n 0, 1), (1, .i2l, 1), (2, .ldc2_w 304, 3), (5, .ldc2_w 306, 3), (8, .invokestatic 308, 3), (11, .ireturn, 1)]
set_option maxRecDepth 100000 in
theorem xi_ok279_0 : xi_ok cX12_isWeight xi_279_0 = true := by decide +kernel
def xi_279 (pc : Nat) : XIs := xi_279_0
theorem xi_ok279 (pc : Nat) : xi_ok cX12_isWeight (xi_279 pc) = true := xi_ok279_0
def xi_280_0 : XIs := [(0, .iconst 0, 1), (1, .istore_n 2, 1), (2, .iload_n 2, 1), (3, .sipush 160, 3), (6, .if_icmp .ge 24, 3), (9, .aload_n 0, 1), (10, .getfield 16, 3), (13, .sipush 160, 3), (16, .iload_n 1, 1), (17, .imul, 1), (18, .iload_n 2, 1), (19, .iadd, 1), (20, .baload, 1), (21, .ifCond .eq 9, 3), (24, .iinc 2 1, 3), (27, .goto (-25), 3)]
set_option maxRecDepth 100000 in
theorem xi_ok280_0 : xi_ok cX12_freePlace xi_280_0 = true := by decide +kernel
def xi_280_1 : XIs := [(30, .iload_n 2, 1), (31, .ireturn, 1)]
set_option maxRecDepth 100000 in
theorem xi_ok280_1 : xi_ok cX12_freePlace xi_280_1 = true := by decide +kernel
def xi_280 (pc : Nat) : XIs := cond (Nat.blt pc 30) (xi_280_0) (xi_280_1)
theorem xi_ok280 (pc : Nat) : xi_ok cX12_freePlace (xi_280 pc) = true := xi_c (xi_ok280_0) (xi_ok280_1)
def xi_281_0 : XIs := [(0, .aload_n 0, 1), (1, .iload_n 1, 1), (2, .i2l, 1), (3, .lconst 0, 1), (4, .ldc2_w 312, 3), (7, .invokestatic 308, 3), (10, .aload_n 0, 1), (11, .getfield 7, 3), (14, .iconst 0, 1), (15, .iaload, 1), (16, .bipush 32, 2), (18, .if_icmp .ge 17, 3), (21, .aload_n 0, 1), (22, .getfield 291, 3), (25, .sipush 4000, 3), (28, .if_icmp .ge 7, 3)]
set_option maxRecDepth 100000 in
theorem xi_ok281_0 : xi_ok cX12_node xi_281_0 = true := by decide +kernel
def xi_281_1 : XIs := [(31, .iconst 1, 1), (32, .goto 4, 3), (35, .iconst 0, 1), (36, .invokevirtual 281, 3), (39, .ifCond .eq 5, 3), (42, .iconst 0, 1), (43, .ireturn, 1), (44, .aload_n 0, 1), (45, .iconst 0, 1), (46, .iload_n 1, 1), (47, .iconst 0, 1), (48, .iconst 0, 1), (49, .iconst 0, 1), (50, .iconst 0, 1), (51, .iconst 0, 1), (52, .invokevirtual 314, 3)]
set_option maxRecDepth 100000 in
theorem xi_ok281_1 : xi_ok cX12_node xi_281_1 = true := by decide +kernel
def xi_281_2 : XIs := [(55, .aload_n 0, 1), (56, .getfield 7, 3), (59, .iconst 0, 1), (60, .iaload, 1), (61, .iconst 1, 1), (62, .isub, 1), (63, .ireturn, 1)]
set_option maxRecDepth 100000 in
theorem xi_ok281_2 : xi_ok cX12_node xi_281_2 = true := by decide +kernel
def xi_281 (pc : Nat) : XIs := cond (Nat.blt pc 31) (xi_281_0) (cond (Nat.blt pc 55) (xi_281_1) (xi_281_2))
theorem xi_ok281 (pc : Nat) : xi_ok cX12_node (xi_281 pc) = true := xi_c (xi_ok281_0) (xi_c (xi_ok281_1) (xi_ok281_2))
def xi_282_0 : XIs := [(0, .aload_n 0, 1), (1, .aload_n 0, 1), (2, .iload_n 1, 1), (3, .invokevirtual 318, 3), (6, .ifCond .eq 48, 3), (9, .aload_n 0, 1), (10, .iload_n 2, 1), (11, .invokevirtual 318, 3), (14, .ifCond .eq 40, 3), (17, .iload_n 3, 1), (18, .invokestatic 322, 3), (21, .ifCond .eq 33, 3), (24, .iload 4, 2), (26, .i2l, 1), (27, .lconst 0, 1), (28, .ldc2_w 306, 3)]
set_option maxRecDepth 100000 in
theorem xi_ok282_0 : xi_ok cX12_arc xi_282_0 = true := by decide +kernel
def xi_282_1 : XIs := [(31, .invokestatic 308, 3), (34, .ifCond .eq 20, 3), (37, .iload 5, 2), (39, .i2l, 1), (40, .lconst 0, 1), (41, .ldc2_w 312, 3), (44, .invokestatic 308, 3), (47, .ifCond .eq 7, 3), (50, .iconst 1, 1), (51, .goto 4, 3), (54, .iconst 0, 1), (55, .aload_n 0, 1), (56, .getfield 291, 3), (59, .sipush 4000, 3), (62, .if_icmp .ge 7, 3), (65, .iconst 1, 1)]
set_option maxRecDepth 100000 in
theorem xi_ok282_1 : xi_ok cX12_arc xi_282_1 = true := by decide +kernel
def xi_282_2 : XIs := [(66, .goto 4, 3), (69, .iconst 0, 1), (70, .invokevirtual 281, 3), (73, .ifCond .eq 5, 3), (76, .iconst 0, 1), (77, .ireturn, 1), (78, .aload_n 0, 1), (79, .iconst 0, 1), (80, .invokevirtual 325, 3), (83, .istore 6, 2), (85, .iload 6, 2), (87, .sipush 160, 3), (90, .if_icmp .ne 6, 3), (93, .bipush (-3), 2), (95, .ireturn, 1), (96, .aload_n 0, 1)]
set_option maxRecDepth 100000 in
theorem xi_ok282_2 : xi_ok cX12_arc xi_282_2 = true := by decide +kernel
def xi_282_3 : XIs := [(97, .iconst 1, 1), (98, .iload 6, 2), (100, .iload_n 1, 1), (101, .iload_n 2, 1), (102, .iload_n 3, 1), (103, .iload 4, 2), (105, .iload 5, 2), (107, .invokevirtual 314, 3), (110, .iload 6, 2), (112, .ireturn, 1)]
set_option maxRecDepth 100000 in
theorem xi_ok282_3 : xi_ok cX12_arc xi_282_3 = true := by decide +kernel
def xi_282 (pc : Nat) : XIs := cond (Nat.blt pc 66) (cond (Nat.blt pc 31) (xi_282_0) (xi_282_1)) (cond (Nat.blt pc 97) (xi_282_2) (xi_282_3))
theorem xi_ok282 (pc : Nat) : xi_ok cX12_arc (xi_282 pc) = true := xi_c (xi_c (xi_ok282_0) (xi_ok282_1)) (xi_c (xi_ok282_2) (xi_ok282_3))
def xi_283_0 : XIs := [(0, .aload_n 0, 1), (1, .aload_n 0, 1), (2, .iload_n 1, 1), (3, .invokevirtual 329, 3), (6, .aload_n 0, 1), (7, .getfield 291, 3), (10, .sipush 4000, 3), (13, .if_icmp .ge 7, 3), (16, .iconst 1, 1), (17, .goto 4, 3), (20, .iconst 0, 1), (21, .invokevirtual 281, 3), (24, .ifCond .eq 5, 3), (27, .iconst 0, 1), (28, .ireturn, 1), (29, .aload_n 0, 1)]
set_option maxRecDepth 100000 in
theorem xi_ok283_0 : xi_ok cX12_take xi_283_0 = true := by decide +kernel
def xi_283_1 : XIs := [(30, .iconst 2, 1), (31, .iload_n 1, 1), (32, .iconst 0, 1), (33, .iconst 0, 1), (34, .iconst 0, 1), (35, .iconst 0, 1), (36, .iconst 0, 1), (37, .invokevirtual 314, 3), (40, .aload_n 0, 1), (41, .getfield 291, 3), (44, .ireturn, 1)]
set_option maxRecDepth 100000 in
theorem xi_ok283_1 : xi_ok cX12_take xi_283_1 = true := by decide +kernel
def xi_283 (pc : Nat) : XIs := cond (Nat.blt pc 30) (xi_283_0) (xi_283_1)
theorem xi_ok283 (pc : Nat) : xi_ok cX12_take (xi_283 pc) = true := xi_c (xi_ok283_0) (xi_ok283_1)
def xi_284_0 : XIs := [(0, .iload_n 2, 1), (1, .ifCond .ne 10, 3), (4, .iload_n 3, 1), (5, .invokestatic 322, 3), (8, .goto 42, 3), (11, .iload_n 2, 1), (12, .iconst 1, 1), (13, .if_icmp .ne 15, 3), (16, .iload_n 3, 1), (17, .i2l, 1), (18, .lconst 0, 1), (19, .ldc2_w 306, 3), (22, .invokestatic 308, 3), (25, .goto 25, 3), (28, .iload_n 2, 1), (29, .iconst 2, 1)]
set_option maxRecDepth 100000 in
theorem xi_ok284_0 : xi_ok cX12_set xi_284_0 = true := by decide +kernel
def xi_284_1 : XIs := [(30, .if_icmp .ne 19, 3), (33, .iload_n 3, 1), (34, .i2l, 1), (35, .lconst 0, 1), (36, .ldc2_w 312, 3), (39, .invokestatic 308, 3), (42, .ifCond .eq 7, 3), (45, .iconst 1, 1), (46, .goto 4, 3), (49, .iconst 0, 1), (50, .istore 4, 2), (52, .aload_n 0, 1), (53, .aload_n 0, 1), (54, .iload_n 1, 1), (55, .invokevirtual 329, 3), (58, .ifCond .eq 12, 3)]
set_option maxRecDepth 100000 in
theorem xi_ok284_1 : xi_ok cX12_set xi_284_1 = true := by decide +kernel
def xi_284_2 : XIs := [(61, .iload 4, 2), (63, .ifCond .eq 7, 3), (66, .iconst 1, 1), (67, .goto 4, 3), (70, .iconst 0, 1), (71, .aload_n 0, 1), (72, .getfield 291, 3), (75, .sipush 4000, 3), (78, .if_icmp .ge 7, 3), (81, .iconst 1, 1), (82, .goto 4, 3), (85, .iconst 0, 1), (86, .invokevirtual 281, 3), (89, .ifCond .eq 5, 3), (92, .iconst 0, 1), (93, .ireturn, 1)]
set_option maxRecDepth 100000 in
theorem xi_ok284_2 : xi_ok cX12_set xi_284_2 = true := by decide +kernel
def xi_284_3 : XIs := [(94, .iload_n 2, 1), (95, .ifCond .ne 12, 3), (98, .aload_n 0, 1), (99, .getfield 26, 3), (102, .iload_n 1, 1), (103, .iaload, 1), (104, .goto 23, 3), (107, .iload_n 2, 1), (108, .iconst 1, 1), (109, .if_icmp .ne 12, 3), (112, .aload_n 0, 1), (113, .getfield 29, 3), (116, .iload_n 1, 1), (117, .iaload, 1), (118, .goto 9, 3), (121, .aload_n 0, 1)]
set_option maxRecDepth 100000 in
theorem xi_ok284_3 : xi_ok cX12_set xi_284_3 = true := by decide +kernel
def xi_284_4 : XIs := [(122, .getfield 32, 3), (125, .iload_n 1, 1), (126, .iaload, 1), (127, .istore 5, 2), (129, .aload_n 0, 1), (130, .iconst 3, 1), (131, .iload_n 1, 1), (132, .iload_n 2, 1), (133, .iload_n 3, 1), (134, .iconst 0, 1), (135, .iconst 0, 1), (136, .iconst 0, 1), (137, .invokevirtual 314, 3), (140, .iload 5, 2), (142, .ireturn, 1)]
set_option maxRecDepth 100000 in
theorem xi_ok284_4 : xi_ok cX12_set xi_284_4 = true := by decide +kernel
def xi_284 (pc : Nat) : XIs := cond (Nat.blt pc 61) (cond (Nat.blt pc 30) (xi_284_0) (xi_284_1)) (cond (Nat.blt pc 94) (xi_284_2) (cond (Nat.blt pc 122) (xi_284_3) (xi_284_4)))
theorem xi_ok284 (pc : Nat) : xi_ok cX12_set (xi_284 pc) = true := xi_c (xi_c (xi_ok284_0) (xi_ok284_1)) (xi_c (xi_ok284_2) (xi_c (xi_ok284_3) (xi_ok284_4)))
def xi_285_0 : XIs := [(0, .aload_n 0, 1), (1, .aload_n 0, 1), (2, .iload_n 1, 1), (3, .invokevirtual 318, 3), (6, .ifCond .eq 19, 3), (9, .iload_n 2, 1), (10, .i2l, 1), (11, .lconst 0, 1), (12, .ldc2_w 312, 3), (15, .invokestatic 308, 3), (18, .ifCond .eq 7, 3), (21, .iconst 1, 1), (22, .goto 4, 3), (25, .iconst 0, 1), (26, .aload_n 0, 1), (27, .getfield 291, 3)]
set_option maxRecDepth 100000 in
theorem xi_ok285_0 : xi_ok cX12_label xi_285_0 = true := by decide +kernel
def xi_285_1 : XIs := [(30, .sipush 4000, 3), (33, .if_icmp .ge 7, 3), (36, .iconst 1, 1), (37, .goto 4, 3), (40, .iconst 0, 1), (41, .invokevirtual 281, 3), (44, .ifCond .eq 5, 3), (47, .iconst 0, 1), (48, .ireturn, 1), (49, .aload_n 0, 1), (50, .getfield 13, 3), (53, .iload_n 1, 1), (54, .iaload, 1), (55, .istore_n 3, 1), (56, .aload_n 0, 1), (57, .iconst 4, 1)]
set_option maxRecDepth 100000 in
theorem xi_ok285_1 : xi_ok cX12_label xi_285_1 = true := by decide +kernel
def xi_285_2 : XIs := [(58, .iload_n 1, 1), (59, .iload_n 2, 1), (60, .iconst 0, 1), (61, .iconst 0, 1), (62, .iconst 0, 1), (63, .iconst 0, 1), (64, .invokevirtual 314, 3), (67, .iload_n 3, 1), (68, .ireturn, 1)]
set_option maxRecDepth 100000 in
theorem xi_ok285_2 : xi_ok cX12_label xi_285_2 = true := by decide +kernel
def xi_285 (pc : Nat) : XIs := cond (Nat.blt pc 30) (xi_285_0) (cond (Nat.blt pc 58) (xi_285_1) (xi_285_2))
theorem xi_ok285 (pc : Nat) : xi_ok cX12_label (xi_285 pc) = true := xi_c (xi_ok285_0) (xi_c (xi_ok285_1) (xi_ok285_2))
def xi_286_0 : XIs := [(0, .aload_n 0, 1), (1, .iload_n 1, 1), (2, .i2l, 1), (3, .ldc2_w 332, 3), (6, .aload_n 0, 1), (7, .getfield 291, 3), (10, .i2l, 1), (11, .invokestatic 308, 3), (14, .invokevirtual 334, 3), (17, .ifCond .eq 5, 3), (20, .iconst 0, 1), (21, .ireturn, 1), (22, .aload_n 0, 1), (23, .iload_n 1, 1), (24, .putfield 56, 3), (27, .iload_n 1, 1)]
set_option maxRecDepth 100000 in
theorem xi_ok286_0 : xi_ok cX12_view xi_286_0 = true := by decide +kernel
def xi_286_1 : XIs := [(28, .ifCond .lt 55, 3), (31, .aload_n 0, 1), (32, .getfield 7, 3), (35, .iconst 1, 1), (36, .iconst 0, 1), (37, .iastore, 1), (38, .iconst 0, 1), (39, .istore_n 2, 1), (40, .iload_n 2, 1), (41, .sipush 160, 3), (44, .if_icmp .ge 20, 3), (47, .aload_n 0, 1), (48, .getfield 16, 3), (51, .sipush 160, 3), (54, .iload_n 2, 1), (55, .iadd, 1)]
set_option maxRecDepth 100000 in
theorem xi_ok286_1 : xi_ok cX12_view xi_286_1 = true := by decide +kernel
def xi_286_2 : XIs := [(56, .iconst 0, 1), (57, .bastore, 1), (58, .iinc 2 1, 3), (61, .goto (-21), 3), (64, .iconst 0, 1), (65, .istore_n 2, 1), (66, .iload_n 2, 1), (67, .iload_n 1, 1), (68, .if_icmp .ge 15, 3), (71, .aload_n 0, 1), (72, .iload_n 2, 1), (73, .iconst 1, 1), (74, .invokevirtual 294, 3), (77, .iinc 2 1, 3), (80, .goto (-14), 3), (83, .aload_n 0, 1)]
set_option maxRecDepth 100000 in
theorem xi_ok286_2 : xi_ok cX12_view xi_286_2 = true := by decide +kernel
def xi_286_3 : XIs := [(84, .invokevirtual 298, 3), (87, .iload_n 1, 1), (88, .ifCond .ge 10, 3), (91, .aload_n 0, 1), (92, .getfield 291, 3), (95, .goto 4, 3), (98, .iload_n 1, 1), (99, .ireturn, 1)]
set_option maxRecDepth 100000 in
theorem xi_ok286_3 : xi_ok cX12_view xi_286_3 = true := by decide +kernel
def xi_286 (pc : Nat) : XIs := cond (Nat.blt pc 56) (cond (Nat.blt pc 28) (xi_286_0) (xi_286_1)) (cond (Nat.blt pc 84) (xi_286_2) (xi_286_3))
theorem xi_ok286 (pc : Nat) : xi_ok cX12_view (xi_286 pc) = true := xi_c (xi_c (xi_ok286_0) (xi_ok286_1)) (xi_c (xi_ok286_2) (xi_ok286_3))
def xi_287_0 : XIs := [(0, .aload_n 0, 1), (1, .iconst 0, 1), (2, .putfield 278, 3), (5, .aload_n 0, 1), (6, .getfield 291, 3), (9, .ireturn, 1)]
set_option maxRecDepth 100000 in
theorem xi_ok287_0 : xi_ok cX12_version xi_287_0 = true := by decide +kernel
def xi_287 (pc : Nat) : XIs := xi_287_0
theorem xi_ok287 (pc : Nat) : xi_ok cX12_version (xi_287 pc) = true := xi_ok287_0
def xi_288_0 : XIs := [(0, .aload_n 0, 1), (1, .getfield 16, 3), (4, .aload_n 0, 1), (5, .getfield 288, 3), (8, .iload_n 1, 1), (9, .iadd, 1), (10, .baload, 1), (11, .ifCond .eq 32, 3), (14, .aload_n 0, 1), (15, .getfield 20, 3), (18, .aload_n 0, 1), (19, .getfield 288, 3), (22, .iload_n 1, 1), (23, .iadd, 1), (24, .iaload, 1), (25, .aload_n 0, 1)]
set_option maxRecDepth 100000 in
theorem xi_ok288_0 : xi_ok cX12_isJoint xi_288_0 = true := by decide +kernel
def xi_288_1 : XIs := [(26, .getfield 23, 3), (29, .aload_n 0, 1), (30, .getfield 288, 3), (33, .iload_n 1, 1), (34, .iadd, 1), (35, .iaload, 1), (36, .if_icmp .eq 7, 3), (39, .iconst 1, 1), (40, .goto 4, 3), (43, .iconst 0, 1), (44, .ireturn, 1)]
set_option maxRecDepth 100000 in
theorem xi_ok288_1 : xi_ok cX12_isJoint xi_288_1 = true := by decide +kernel
def xi_288 (pc : Nat) : XIs := cond (Nat.blt pc 26) (xi_288_0) (xi_288_1)
theorem xi_ok288 (pc : Nat) : xi_ok cX12_isJoint (xi_288 pc) = true := xi_c (xi_ok288_0) (xi_ok288_1)
def xi_289_0 : XIs := [(0, .aload_n 0, 1), (1, .iload_n 1, 1), (2, .i2l, 1), (3, .lconst 0, 1), (4, .ldc2_w 338, 3), (7, .invokestatic 308, 3), (10, .invokevirtual 334, 3), (13, .ifCond .eq 5, 3), (16, .iconst 0, 1), (17, .ireturn, 1), (18, .iconst 0, 1), (19, .istore_n 2, 1), (20, .iconst 0, 1), (21, .istore_n 3, 1), (22, .iconst (-1), 1), (23, .istore 4, 2)]
set_option maxRecDepth 100000 in
theorem xi_ok289_0 : xi_ok cX12_size xi_289_0 = true := by decide +kernel
def xi_289_1 : XIs := [(25, .iconst 0, 1), (26, .istore 5, 2), (28, .iload 5, 2), (30, .sipush 160, 3), (33, .if_icmp .ge 73, 3), (36, .iload_n 2, 1), (37, .aload_n 0, 1), (38, .getfield 16, 3), (41, .aload_n 0, 1), (42, .getfield 288, 3), (45, .iload 5, 2), (47, .iadd, 1), (48, .baload, 1), (49, .ifCond .eq 7, 3), (52, .iconst 1, 1), (53, .goto 4, 3)]
set_option maxRecDepth 100000 in
theorem xi_ok289_1 : xi_ok cX12_size xi_289_1 = true := by decide +kernel
def xi_289_2 : XIs := [(56, .iconst 0, 1), (57, .iadd, 1), (58, .istore_n 2, 1), (59, .iload_n 3, 1), (60, .aload_n 0, 1), (61, .iload 5, 2), (63, .invokevirtual 340, 3), (66, .ifCond .eq 7, 3), (69, .iconst 1, 1), (70, .goto 4, 3), (73, .iconst 0, 1), (74, .iadd, 1), (75, .istore_n 3, 1), (76, .aload_n 0, 1), (77, .getfield 16, 3), (80, .aload_n 0, 1)]
set_option maxRecDepth 100000 in
theorem xi_ok289_2 : xi_ok cX12_size xi_289_2 = true := by decide +kernel
def xi_289_3 : XIs := [(81, .getfield 288, 3), (84, .iload 5, 2), (86, .iadd, 1), (87, .baload, 1), (88, .ifCond .eq 8, 3), (91, .iload 5, 2), (93, .goto 5, 3), (96, .iload 4, 2), (98, .istore 4, 2), (100, .iinc 5 1, 3), (103, .goto (-75), 3), (106, .iload_n 1, 1), (107, .ifCond .ne 10, 3), (110, .aload_n 0, 1), (111, .getfield 285, 3), (114, .goto 23, 3)]
set_option maxRecDepth 100000 in
theorem xi_ok289_3 : xi_ok cX12_size xi_289_3 = true := by decide +kernel
def xi_289_4 : XIs := [(117, .iload_n 1, 1), (118, .iconst 1, 1), (119, .if_icmp .ne 7, 3), (122, .iload_n 2, 1), (123, .goto 14, 3), (126, .iload_n 1, 1), (127, .iconst 2, 1), (128, .if_icmp .ne 7, 3), (131, .iload_n 3, 1), (132, .goto 5, 3), (135, .iload 4, 2), (137, .ireturn, 1)]
set_option maxRecDepth 100000 in
theorem xi_ok289_4 : xi_ok cX12_size xi_289_4 = true := by decide +kernel
def xi_289 (pc : Nat) : XIs := cond (Nat.blt pc 56) (cond (Nat.blt pc 25) (xi_289_0) (xi_289_1)) (cond (Nat.blt pc 81) (xi_289_2) (cond (Nat.blt pc 117) (xi_289_3) (xi_289_4)))
theorem xi_ok289 (pc : Nat) : xi_ok cX12_size (xi_289 pc) = true := xi_c (xi_c (xi_ok289_0) (xi_ok289_1)) (xi_c (xi_ok289_2) (xi_c (xi_ok289_3) (xi_ok289_4)))
def xi_290_0 : XIs := [(0, .aload_n 0, 1), (1, .iload_n 1, 1), (2, .i2l, 1), (3, .lconst 0, 1), (4, .ldc2_w 343, 3), (7, .invokestatic 308, 3), (10, .ifCond .eq 19, 3), (13, .iload_n 2, 1), (14, .i2l, 1), (15, .lconst 0, 1), (16, .ldc2_w 345, 3), (19, .invokestatic 308, 3), (22, .ifCond .eq 7, 3), (25, .iconst 1, 1), (26, .goto 4, 3), (29, .iconst 0, 1)]
set_option maxRecDepth 100000 in
theorem xi_ok290_0 : xi_ok cX12_told xi_290_0 = true := by decide +kernel
def xi_290_1 : XIs := [(30, .invokevirtual 334, 3), (33, .ifCond .eq 5, 3), (36, .lconst 0, 1), (37, .lreturn, 1), (38, .aload_n 0, 1), (39, .getfield 288, 3), (42, .iload_n 1, 1), (43, .iadd, 1), (44, .istore_n 3, 1), (45, .aload_n 0, 1), (46, .getfield 16, 3), (49, .iload_n 3, 1), (50, .baload, 1), (51, .ifCond .ne 7, 3), (54, .ldc2_w 347, 3), (57, .lreturn, 1)]
set_option maxRecDepth 100000 in
theorem xi_ok290_1 : xi_ok cX12_told xi_290_1 = true := by decide +kernel
def xi_290_2 : XIs := [(58, .iload_n 2, 1), (59, .ifCond .ne 13, 3), (62, .aload_n 0, 1), (63, .getfield 20, 3), (66, .iload_n 3, 1), (67, .iaload, 1), (68, .i2l, 1), (69, .goto 55, 3), (72, .iload_n 2, 1), (73, .iconst 1, 1), (74, .if_icmp .ne 13, 3), (77, .aload_n 0, 1), (78, .getfield 23, 3), (81, .iload_n 3, 1), (82, .iaload, 1), (83, .i2l, 1)]
set_option maxRecDepth 100000 in
theorem xi_ok290_2 : xi_ok cX12_told xi_290_2 = true := by decide +kernel
def xi_290_3 : XIs := [(84, .goto 40, 3), (87, .iload_n 2, 1), (88, .iconst 2, 1), (89, .if_icmp .ne 13, 3), (92, .aload_n 0, 1), (93, .getfield 26, 3), (96, .iload_n 3, 1), (97, .iaload, 1), (98, .i2l, 1), (99, .goto 25, 3), (102, .iload_n 2, 1), (103, .iconst 3, 1), (104, .if_icmp .ne 13, 3), (107, .aload_n 0, 1), (108, .getfield 29, 3), (111, .iload_n 3, 1)]
set_option maxRecDepth 100000 in
theorem xi_ok290_3 : xi_ok cX12_told xi_290_3 = true := by decide +kernel
def xi_290_4 : XIs := [(112, .iaload, 1), (113, .i2l, 1), (114, .goto 10, 3), (117, .aload_n 0, 1), (118, .getfield 32, 3), (121, .iload_n 3, 1), (122, .iaload, 1), (123, .i2l, 1), (124, .lreturn, 1)]
set_option maxRecDepth 100000 in
theorem xi_ok290_4 : xi_ok cX12_told xi_290_4 = true := by decide +kernel
def xi_290 (pc : Nat) : XIs := cond (Nat.blt pc 58) (cond (Nat.blt pc 30) (xi_290_0) (xi_290_1)) (cond (Nat.blt pc 84) (xi_290_2) (cond (Nat.blt pc 112) (xi_290_3) (xi_290_4)))
theorem xi_ok290 (pc : Nat) : xi_ok cX12_told (xi_290 pc) = true := xi_c (xi_c (xi_ok290_0) (xi_ok290_1)) (xi_c (xi_ok290_2) (xi_c (xi_ok290_3) (xi_ok290_4)))
def xi_291_0 : XIs := [(0, .aload_n 0, 1), (1, .aload_n 0, 1), (2, .iload_n 1, 1), (3, .invokevirtual 349, 3), (6, .invokevirtual 334, 3), (9, .ifCond .eq 7, 3), (12, .iconst 0, 1), (13, .goto 17, 3), (16, .aload_n 0, 1), (17, .getfield 13, 3), (20, .bipush 32, 2), (22, .aload_n 0, 1), (23, .getfield 301, 3), (26, .imul, 1), (27, .iload_n 1, 1), (28, .iadd, 1)]
set_option maxRecDepth 100000 in
theorem xi_ok291_0 : xi_ok cX12_labelOf xi_291_0 = true := by decide +kernel
def xi_291_1 : XIs := [(29, .iaload, 1), (30, .ireturn, 1)]
set_option maxRecDepth 100000 in
theorem xi_ok291_1 : xi_ok cX12_labelOf xi_291_1 = true := by decide +kernel
def xi_291 (pc : Nat) : XIs := cond (Nat.blt pc 29) (xi_291_0) (xi_291_1)
theorem xi_ok291 (pc : Nat) : xi_ok cX12_labelOf (xi_291 pc) = true := xi_c (xi_ok291_0) (xi_ok291_1)
def xi_292_0 : XIs := [(0, .aload_n 0, 1), (1, .aload_n 0, 1), (2, .iload_n 1, 1), (3, .invokevirtual 349, 3), (6, .ifCond .eq 21, 3), (9, .iload_n 2, 1), (10, .i2l, 1), (11, .lconst 0, 1), (12, .lconst 1, 1), (13, .invokestatic 308, 3), (16, .ifCond .eq 11, 3), (19, .iload_n 3, 1), (20, .ifCond .lt 7, 3), (23, .iconst 1, 1), (24, .goto 4, 3), (27, .iconst 0, 1)]
set_option maxRecDepth 100000 in
theorem xi_ok292_0 : xi_ok cX12_arcAt xi_292_0 = true := by decide +kernel
def xi_292_1 : XIs := [(28, .invokevirtual 334, 3), (31, .ifCond .eq 5, 3), (34, .iconst 0, 1), (35, .ireturn, 1), (36, .iconst 0, 1), (37, .istore 4, 2), (39, .iconst 0, 1), (40, .istore 5, 2), (42, .iload 5, 2), (44, .sipush 160, 3), (47, .if_icmp .ge 71, 3), (50, .aload_n 0, 1), (51, .getfield 16, 3), (54, .aload_n 0, 1), (55, .getfield 288, 3), (58, .iload 5, 2)]
set_option maxRecDepth 100000 in
theorem xi_ok292_1 : xi_ok cX12_arcAt xi_292_1 = true := by decide +kernel
def xi_292_2 : XIs := [(60, .iadd, 1), (61, .baload, 1), (62, .ifCond .eq 50, 3), (65, .iload_n 2, 1), (66, .ifCond .ne 18, 3), (69, .aload_n 0, 1), (70, .getfield 20, 3), (73, .aload_n 0, 1), (74, .getfield 288, 3), (77, .iload 5, 2), (79, .iadd, 1), (80, .iaload, 1), (81, .goto 15, 3), (84, .aload_n 0, 1), (85, .getfield 23, 3), (88, .aload_n 0, 1)]
set_option maxRecDepth 100000 in
theorem xi_ok292_2 : xi_ok cX12_arcAt xi_292_2 = true := by decide +kernel
def xi_292_3 : XIs := [(89, .getfield 288, 3), (92, .iload 5, 2), (94, .iadd, 1), (95, .iaload, 1), (96, .iload_n 1, 1), (97, .if_icmp .ne 15, 3), (100, .iload 4, 2), (102, .iload_n 3, 1), (103, .if_icmp .ne 6, 3), (106, .iload 5, 2), (108, .ireturn, 1), (109, .iinc 4 1, 3), (112, .iinc 5 1, 3), (115, .goto (-73), 3), (118, .iconst (-1), 1), (119, .ireturn, 1)]
set_option maxRecDepth 100000 in
theorem xi_ok292_3 : xi_ok cX12_arcAt xi_292_3 = true := by decide +kernel
def xi_292 (pc : Nat) : XIs := cond (Nat.blt pc 60) (cond (Nat.blt pc 28) (xi_292_0) (xi_292_1)) (cond (Nat.blt pc 89) (xi_292_2) (xi_292_3))
theorem xi_ok292 (pc : Nat) : xi_ok cX12_arcAt (xi_292 pc) = true := xi_c (xi_c (xi_ok292_0) (xi_ok292_1)) (xi_c (xi_ok292_2) (xi_ok292_3))
def xi_293_0 : XIs := [(0, .aload_n 0, 1), (1, .iload_n 1, 1), (2, .i2l, 1), (3, .ldc2_w 352, 3), (6, .ldc2_w 354, 3), (9, .invokestatic 308, 3), (12, .aload_n 0, 1), (13, .getfield 356, 3), (16, .sipush 1000, 3), (19, .if_icmp .ge 7, 3), (22, .iconst 1, 1), (23, .goto 4, 3), (26, .iconst 0, 1), (27, .invokevirtual 281, 3), (30, .ifCond .eq 5, 3), (33, .iconst 0, 1)]
set_option maxRecDepth 100000 in
theorem xi_ok293_0 : xi_ok cX12_type xi_293_0 = true := by decide +kernel
def xi_293_1 : XIs := [(34, .ireturn, 1), (35, .aload_n 0, 1), (36, .getfield 60, 3), (39, .aload_n 0, 1), (40, .getfield 356, 3), (43, .iload_n 1, 1), (44, .iastore, 1), (45, .aload_n 0, 1), (46, .dup, 1), (47, .getfield 356, 3), (50, .iconst 1, 1), (51, .iadd, 1), (52, .putfield 356, 3), (55, .aload_n 0, 1), (56, .getfield 356, 3), (59, .ireturn, 1)]
set_option maxRecDepth 100000 in
theorem xi_ok293_1 : xi_ok cX12_type xi_293_1 = true := by decide +kernel
def xi_293 (pc : Nat) : XIs := cond (Nat.blt pc 34) (xi_293_0) (xi_293_1)
theorem xi_ok293 (pc : Nat) : xi_ok cX12_type (xi_293 pc) = true := xi_c (xi_ok293_0) (xi_ok293_1)
def xi_294_0 : XIs := [(0, .aload_n 0, 1), (1, .iconst 0, 1), (2, .putfield 278, 3), (5, .aload_n 0, 1), (6, .getfield 356, 3), (9, .istore_n 1, 1), (10, .aload_n 0, 1), (11, .iconst 0, 1), (12, .putfield 356, 3), (15, .iload_n 1, 1), (16, .ireturn, 1)]
set_option maxRecDepth 100000 in
theorem xi_ok294_0 : xi_ok cX12_wipe xi_294_0 = true := by decide +kernel
def xi_294 (pc : Nat) : XIs := xi_294_0
theorem xi_ok294 (pc : Nat) : xi_ok cX12_wipe (xi_294 pc) = true := xi_ok294_0
def xi_295_0 : XIs := [(0, .aload_n 0, 1), (1, .iload_n 1, 1), (2, .i2l, 1), (3, .lconst 0, 1), (4, .lconst 1, 1), (5, .invokestatic 308, 3), (8, .invokevirtual 334, 3), (11, .ifCond .eq 5, 3), (14, .iconst 0, 1), (15, .ireturn, 1), (16, .aload_n 0, 1), (17, .getfield 359, 3), (20, .ifCond .ne 7, 3), (23, .iconst (-1), 1), (24, .goto 18, 3), (27, .iload_n 1, 1)]
set_option maxRecDepth 100000 in
theorem xi_ok295_0 : xi_ok cX12_fault xi_295_0 = true := by decide +kernel
def xi_295_1 : XIs := [(28, .ifCond .ne 10, 3), (31, .aload_n 0, 1), (32, .getfield 359, 3), (35, .goto 7, 3), (38, .aload_n 0, 1), (39, .getfield 362, 3), (42, .ireturn, 1)]
set_option maxRecDepth 100000 in
theorem xi_ok295_1 : xi_ok cX12_fault xi_295_1 = true := by decide +kernel
def xi_295 (pc : Nat) : XIs := cond (Nat.blt pc 28) (xi_295_0) (xi_295_1)
theorem xi_ok295 (pc : Nat) : xi_ok cX12_fault (xi_295 pc) = true := xi_c (xi_ok295_0) (xi_ok295_1)
def xi_296_0 : XIs := [(0, .iload_n 0, 1), (1, .bipush 97, 2), (3, .if_icmp .lt 13, 3), (6, .iload_n 0, 1), (7, .bipush 122, 2), (9, .if_icmp .gt 7, 3), (12, .iconst 1, 1), (13, .goto 4, 3), (16, .iconst 0, 1), (17, .ireturn, 1)]
set_option maxRecDepth 100000 in
theorem xi_ok296_0 : xi_ok cX12_isLetter xi_296_0 = true := by decide +kernel
def xi_296 (pc : Nat) : XIs := xi_296_0
theorem xi_ok296 (pc : Nat) : xi_ok cX12_isLetter (xi_296 pc) = true := xi_ok296_0
def xi_297_0 : XIs := [(0, .iload_n 0, 1), (1, .bipush 48, 2), (3, .if_icmp .lt 13, 3), (6, .iload_n 0, 1), (7, .bipush 57, 2), (9, .if_icmp .gt 7, 3), (12, .iconst 1, 1), (13, .goto 4, 3), (16, .iconst 0, 1), (17, .ireturn, 1)]
set_option maxRecDepth 100000 in
theorem xi_ok297_0 : xi_ok cX12_isDigit xi_297_0 = true := by decide +kernel
def xi_297 (pc : Nat) : XIs := xi_297_0
theorem xi_ok297 (pc : Nat) : xi_ok cX12_isDigit (xi_297 pc) = true := xi_ok297_0
def xi_298_0 : XIs := [(0, .aload_n 0, 1), (1, .getfield 359, 3), (4, .ifCond .ne 13, 3), (7, .aload_n 0, 1), (8, .iload_n 1, 1), (9, .putfield 359, 3), (12, .aload_n 0, 1), (13, .iload_n 2, 1), (14, .putfield 362, 3), (17, .return_, 1)]
set_option maxRecDepth 100000 in
theorem xi_ok298_0 : xi_ok cX12_blame xi_298_0 = true := by decide +kernel
def xi_298 (pc : Nat) : XIs := xi_298_0
theorem xi_ok298 (pc : Nat) : xi_ok cX12_blame (xi_298 pc) = true := xi_ok298_0
def xi_299 (pc : Nat) : XIs := []
theorem xi_ok299 (pc : Nat) : xi_ok cX12_nextToken (xi_299 pc) = true := rfl
def xi_300 (pc : Nat) : XIs := []
theorem xi_ok300 (pc : Nat) : xi_ok cX12_readNumber (xi_300 pc) = true := rfl
def xi_301 (pc : Nat) : XIs := []
theorem xi_ok301 (pc : Nat) : xi_ok cX12_shape (xi_301 pc) = true := rfl
def xi_302 (pc : Nat) : XIs := []
theorem xi_ok302 (pc : Nat) : xi_ok cX12_load (xi_302 pc) = true := rfl
def xi_303_0 : XIs := [(0, .aload_n 0, 1), (1, .getfield 7, 3), (4, .iconst 2, 1), (5, .aload_n 0, 1), (6, .getfield 7, 3), (9, .iconst 0, 1), (10, .iaload, 1), (11, .iastore, 1), (12, .iconst 0, 1), (13, .istore_n 1, 1), (14, .iload_n 1, 1), (15, .sipush 160, 3), (18, .if_icmp .ge 25, 3), (21, .aload_n 0, 1), (22, .getfield 16, 3), (25, .sipush 320, 3)]
set_option maxRecDepth 100000 in
theorem xi_ok303_0 : xi_ok cX12_copyGraph xi_303_0 = true := by decide +kernel
def xi_303_1 : XIs := [(28, .iload_n 1, 1), (29, .iadd, 1), (30, .aload_n 0, 1), (31, .getfield 16, 3), (34, .iload_n 1, 1), (35, .baload, 1), (36, .bastore, 1), (37, .iinc 1 1, 3), (40, .goto (-26), 3), (43, .return_, 1)]
set_option maxRecDepth 100000 in
theorem xi_ok303_1 : xi_ok cX12_copyGraph xi_303_1 = true := by decide +kernel
def xi_303 (pc : Nat) : XIs := cond (Nat.blt pc 28) (xi_303_0) (xi_303_1)
theorem xi_ok303 (pc : Nat) : xi_ok cX12_copyGraph (xi_303 pc) = true := xi_c (xi_ok303_0) (xi_ok303_1)
def xi_304 (pc : Nat) : XIs := []
theorem xi_ok304 (pc : Nat) : xi_ok cX12_command (xi_304 pc) = true := rfl
def xi_305 (pc : Nat) : XIs := []
theorem xi_ok305 (pc : Nat) : xi_ok cX12_isDone (xi_305 pc) = true := rfl
def xi_306 (pc : Nat) : XIs := []
theorem xi_ok306 (pc : Nat) : xi_ok cX12_put (xi_306 pc) = true := rfl
def xi_307 (pc : Nat) : XIs := []
theorem xi_ok307 (pc : Nat) : xi_ok cX12_putNumber (xi_307 pc) = true := rfl
def xi_308 (pc : Nat) : XIs := []
theorem xi_ok308 (pc : Nat) : xi_ok cX12_print (xi_308 pc) = true := rfl
def xi_309 (pc : Nat) : XIs := []
theorem xi_ok309 (pc : Nat) : xi_ok cX12_printed (xi_309 pc) = true := rfl
def xi_310_0 : XIs := [(0, .iconst 0, 1), (1, .istore 4, 2), (3, .iload 4, 2), (5, .aload_n 0, 1), (6, .getfield 285, 3), (9, .if_icmp .ge 30, 3), (12, .aload_n 0, 1), (13, .getfield 72, 3), (16, .iload 4, 2), (18, .iload 4, 2), (20, .iload_n 3, 1), (21, .if_icmp .ne 7, 3), (24, .iconst 0, 1), (25, .goto 7, 3), (28, .iconst 1, 1), (29, .iload 4, 2)]
set_option maxRecDepth 100000 in
theorem xi_ok310_0 : xi_ok cX12_close xi_310_0 = true := by decide +kernel
def xi_310_1 : XIs := [(31, .ishl, 1), (32, .iastore, 1), (33, .iinc 4 1, 3), (36, .goto (-33), 3), (39, .iconst 0, 1), (40, .istore 4, 2), (42, .iload 4, 2), (44, .sipush 160, 3), (47, .if_icmp .ge 106, 3), (50, .aload_n 0, 1), (51, .getfield 20, 3), (54, .aload_n 0, 1), (55, .getfield 288, 3), (58, .iload 4, 2), (60, .iadd, 1), (61, .iaload, 1)]
set_option maxRecDepth 100000 in
theorem xi_ok310_1 : xi_ok cX12_close xi_310_1 = true := by decide +kernel
def xi_310_2 : XIs := [(62, .istore 5, 2), (64, .aload_n 0, 1), (65, .getfield 23, 3), (68, .aload_n 0, 1), (69, .getfield 288, 3), (72, .iload 4, 2), (74, .iadd, 1), (75, .iaload, 1), (76, .istore 6, 2), (78, .aload_n 0, 1), (79, .getfield 16, 3), (82, .aload_n 0, 1), (83, .getfield 288, 3), (86, .iload 4, 2), (88, .iadd, 1), (89, .baload, 1)]
set_option maxRecDepth 100000 in
theorem xi_ok310_2 : xi_ok cX12_close xi_310_2 = true := by decide +kernel
def xi_310_3 : XIs := [(90, .ifCond .eq 57, 3), (93, .iload 4, 2), (95, .iload_n 2, 1), (96, .if_icmp .eq 51, 3), (99, .iload 5, 2), (101, .iload_n 3, 1), (102, .if_icmp .eq 45, 3), (105, .iload 6, 2), (107, .iload_n 3, 1), (108, .if_icmp .eq 39, 3), (111, .aload_n 0, 1), (112, .getfield 72, 3), (115, .iload 5, 2), (117, .dup2, 1), (118, .iaload, 1), (119, .iconst 1, 1)]
set_option maxRecDepth 100000 in
theorem xi_ok310_3 : xi_ok cX12_close xi_310_3 = true := by decide +kernel
def xi_310_4 : XIs := [(120, .iload 6, 2), (122, .ishl, 1), (123, .ior, 1), (124, .iastore, 1), (125, .aload_n 0, 1), (126, .getfield 72, 3), (129, .iload 6, 2), (131, .dup2, 1), (132, .iaload, 1), (133, .iload_n 1, 1), (134, .ifCond .eq 10, 3), (137, .iconst 1, 1), (138, .iload 5, 2), (140, .ishl, 1), (141, .goto 4, 3), (144, .iconst 0, 1)]
set_option maxRecDepth 100000 in
theorem xi_ok310_4 : xi_ok cX12_close xi_310_4 = true := by decide +kernel
def xi_310_5 : XIs := [(145, .ior, 1), (146, .iastore, 1), (147, .iinc 4 1, 3), (150, .goto (-108), 3), (153, .iconst 0, 1), (154, .istore 4, 2), (156, .iload 4, 2), (158, .aload_n 0, 1), (159, .getfield 285, 3), (162, .if_icmp .ge 64, 3), (165, .iconst 0, 1), (166, .istore 5, 2), (168, .iload 5, 2), (170, .aload_n 0, 1), (171, .getfield 285, 3), (174, .if_icmp .ge 46, 3)]
set_option maxRecDepth 100000 in
theorem xi_ok310_5 : xi_ok cX12_close xi_310_5 = true := by decide +kernel
def xi_310_6 : XIs := [(177, .aload_n 0, 1), (178, .getfield 72, 3), (181, .iload 5, 2), (183, .dup2, 1), (184, .iaload, 1), (185, .aload_n 0, 1), (186, .getfield 72, 3), (189, .iload 5, 2), (191, .iaload, 1), (192, .iload 4, 2), (194, .ishr, 1), (195, .iconst 1, 1), (196, .iand, 1), (197, .iconst 1, 1), (198, .if_icmp .ne 13, 3), (201, .aload_n 0, 1)]
set_option maxRecDepth 100000 in
theorem xi_ok310_6 : xi_ok cX12_close xi_310_6 = true := by decide +kernel
def xi_310_7 : XIs := [(202, .getfield 72, 3), (205, .iload 4, 2), (207, .iaload, 1), (208, .goto 4, 3), (211, .iconst 0, 1), (212, .ior, 1), (213, .iastore, 1), (214, .iinc 5 1, 3), (217, .goto (-49), 3), (220, .iinc 4 1, 3), (223, .goto (-67), 3), (226, .return_, 1)]
set_option maxRecDepth 100000 in
theorem xi_ok310_7 : xi_ok cX12_close xi_310_7 = true := by decide +kernel
def xi_310 (pc : Nat) : XIs := cond (Nat.blt pc 120) (cond (Nat.blt pc 62) (cond (Nat.blt pc 31) (xi_310_0) (xi_310_1)) (cond (Nat.blt pc 90) (xi_310_2) (xi_310_3))) (cond (Nat.blt pc 177) (cond (Nat.blt pc 145) (xi_310_4) (xi_310_5)) (cond (Nat.blt pc 202) (xi_310_6) (xi_310_7)))
theorem xi_ok310 (pc : Nat) : xi_ok cX12_close (xi_310 pc) = true := xi_c (xi_c (xi_c (xi_ok310_0) (xi_ok310_1)) (xi_c (xi_ok310_2) (xi_ok310_3))) (xi_c (xi_c (xi_ok310_4) (xi_ok310_5)) (xi_c (xi_ok310_6) (xi_ok310_7)))
def xi_311_0 : XIs := [(0, .iload_n 0, 1), (1, .iload_n 1, 1), (2, .ishr, 1), (3, .iconst 1, 1), (4, .iand, 1), (5, .iconst 1, 1), (6, .if_icmp .ne 7, 3), (9, .iconst 1, 1), (10, .goto 4, 3), (13, .iconst 0, 1), (14, .ireturn, 1)]
set_option maxRecDepth 100000 in
theorem xi_ok311_0 : xi_ok cX12_has xi_311_0 = true := by decide +kernel
def xi_311 (pc : Nat) : XIs := xi_311_0
theorem xi_ok311 (pc : Nat) : xi_ok cX12_has (xi_311 pc) = true := xi_ok311_0
def xi_312 (pc : Nat) : XIs := []
theorem xi_ok312 (pc : Nat) : xi_ok cX12_toGoal (xi_312 pc) = true := rfl
def xi_313 (pc : Nat) : XIs := []
theorem xi_ok313 (pc : Nat) : xi_ok cX12_fewest (xi_313 pc) = true := rfl
def xi_314 (pc : Nat) : XIs := []
theorem xi_ok314 (pc : Nat) : xi_ok cX12_between (xi_314 pc) = true := rfl
def xi_315 (pc : Nat) : XIs := []
theorem xi_ok315 (pc : Nat) : xi_ok cX12_distance (xi_315 pc) = true := rfl
def xi_316 (pc : Nat) : XIs := []
theorem xi_ok316 (pc : Nat) : xi_ok cX12_way (xi_316 pc) = true := rfl
def xi_317 (pc : Nat) : XIs := []
theorem xi_ok317 (pc : Nat) : xi_ok cX12_width (xi_317 pc) = true := rfl
def xi_318 (pc : Nat) : XIs := []
theorem xi_ok318 (pc : Nat) : xi_ok cX12_addShort (xi_318 pc) = true := rfl
def xi_319_0 : XIs := [(0, .aload_n 0, 1), (1, .getfield 16, 3), (4, .aload_n 0, 1), (5, .getfield 288, 3), (8, .iload_n 1, 1), (9, .iadd, 1), (10, .baload, 1), (11, .ifCond .eq 40, 3), (14, .aload_n 0, 1), (15, .getfield 20, 3), (18, .aload_n 0, 1), (19, .getfield 288, 3), (22, .iload_n 1, 1), (23, .iadd, 1), (24, .iaload, 1), (25, .iload_n 2, 1)]
set_option maxRecDepth 100000 in
theorem xi_ok319_0 : xi_ok cX12_goesOn xi_319_0 = true := by decide +kernel
def xi_319_1 : XIs := [(26, .if_icmp .ne 25, 3), (29, .iload_n 3, 1), (30, .aload_n 0, 1), (31, .getfield 23, 3), (34, .aload_n 0, 1), (35, .getfield 288, 3), (38, .iload_n 1, 1), (39, .iadd, 1), (40, .iaload, 1), (41, .invokestatic 427, 3), (44, .ifCond .ne 7, 3), (47, .iconst 1, 1), (48, .goto 4, 3), (51, .iconst 0, 1), (52, .ireturn, 1)]
set_option maxRecDepth 100000 in
theorem xi_ok319_1 : xi_ok cX12_goesOn xi_319_1 = true := by decide +kernel
def xi_319 (pc : Nat) : XIs := cond (Nat.blt pc 26) (xi_319_0) (xi_319_1)
theorem xi_ok319 (pc : Nat) : xi_ok cX12_goesOn (xi_319 pc) = true := xi_c (xi_ok319_0) (xi_ok319_1)
def xi_320 (pc : Nat) : XIs := []
theorem xi_ok320 (pc : Nat) : xi_ok cX12_findShorts (xi_320 pc) = true := rfl
def xi_321 (pc : Nat) : XIs := []
theorem xi_ok321 (pc : Nat) : xi_ok cX12_second (xi_321 pc) = true := rfl
def xi_322 (pc : Nat) : XIs := []
theorem xi_ok322 (pc : Nat) : xi_ok cX12_third (xi_322 pc) = true := rfl
def xi_323 (pc : Nat) : XIs := []
theorem xi_ok323 (pc : Nat) : xi_ok cX12_isBefore (xi_323 pc) = true := rfl
def xi_324 (pc : Nat) : XIs := []
theorem xi_ok324 (pc : Nat) : xi_ok cX12_sortShorts (xi_324 pc) = true := rfl
def xi_325 (pc : Nat) : XIs := []
theorem xi_ok325 (pc : Nat) : xi_ok cX12_shorts (xi_325 pc) = true := rfl
def xi_326 (pc : Nat) : XIs := []
theorem xi_ok326 (pc : Nat) : xi_ok cX12_shortArc (xi_326 pc) = true := rfl
def xi_327_0 : XIs := [(0, .iconst 0, 1), (1, .istore_n 1, 1), (2, .iload_n 0, 1), (3, .iload_n 1, 1), (4, .invokestatic 427, 3), (7, .ifCond .ne 9, 3), (10, .iinc 1 1, 3), (13, .goto (-11), 3), (16, .iload_n 1, 1), (17, .ireturn, 1)]
set_option maxRecDepth 100000 in
theorem xi_ok327_0 : xi_ok cX12_least xi_327_0 = true := by decide +kernel
def xi_327 (pc : Nat) : XIs := xi_327_0
theorem xi_ok327 (pc : Nat) : xi_ok cX12_least (xi_327 pc) = true := xi_ok327_0
def xi_328 (pc : Nat) : XIs := []
theorem xi_ok328 (pc : Nat) : xi_ok cX12_part (xi_328 pc) = true := rfl
def xi_329_0 : XIs := [(0, .aload_n 0, 1), (1, .iconst 1, 1), (2, .iload_n 1, 1), (3, .iload_n 2, 1), (4, .invokevirtual 433, 3), (7, .iconst 0, 1), (8, .istore_n 3, 1), (9, .iconst 0, 1), (10, .istore 4, 2), (12, .iload 4, 2), (14, .aload_n 0, 1), (15, .getfield 285, 3), (18, .if_icmp .ge 38, 3), (21, .iload_n 3, 1), (22, .iload 4, 2), (24, .iload_n 2, 1)]
set_option maxRecDepth 100000 in
theorem xi_ok329_0 : xi_ok cX12_weakParts xi_329_0 = true := by decide +kernel
def xi_329_1 : XIs := [(25, .if_icmp .eq 22, 3), (28, .aload_n 0, 1), (29, .getfield 72, 3), (32, .iload 4, 2), (34, .iaload, 1), (35, .invokestatic 473, 3), (38, .iload 4, 2), (40, .if_icmp .ne 7, 3), (43, .iconst 1, 1), (44, .goto 4, 3), (47, .iconst 0, 1), (48, .iadd, 1), (49, .istore_n 3, 1), (50, .iinc 4 1, 3), (53, .goto (-41), 3), (56, .iload_n 3, 1)]
set_option maxRecDepth 100000 in
theorem xi_ok329_1 : xi_ok cX12_weakParts xi_329_1 = true := by decide +kernel
def xi_329_2 : XIs := [(57, .ireturn, 1)]
set_option maxRecDepth 100000 in
theorem xi_ok329_2 : xi_ok cX12_weakParts xi_329_2 = true := by decide +kernel
def xi_329 (pc : Nat) : XIs := cond (Nat.blt pc 25) (xi_329_0) (cond (Nat.blt pc 57) (xi_329_1) (xi_329_2))
theorem xi_ok329 (pc : Nat) : xi_ok cX12_weakParts (xi_329 pc) = true := xi_c (xi_ok329_0) (xi_c (xi_ok329_1) (xi_ok329_2))
def xi_330 (pc : Nat) : XIs := []
theorem xi_ok330 (pc : Nat) : xi_ok cX12_bridge (xi_330 pc) = true := rfl
def xi_331 (pc : Nat) : XIs := []
theorem xi_ok331 (pc : Nat) : xi_ok cX12_cut (xi_331 pc) = true := rfl
def xi_332 (pc : Nat) : XIs := []
theorem xi_ok332 (pc : Nat) : xi_ok cX12_order (xi_332 pc) = true := rfl
def xi_333_0 : XIs := [(0, .iconst 0, 1), (1, .istore_n 3, 1), (2, .iconst 0, 1), (3, .istore 4, 2), (5, .iload 4, 2), (7, .sipush 160, 3), (10, .if_icmp .ge 84, 3), (13, .aload_n 0, 1), (14, .iload 4, 2), (16, .invokevirtual 340, 3), (19, .ifCond .eq 69, 3), (22, .aload_n 0, 1), (23, .getfield 20, 3), (26, .aload_n 0, 1), (27, .getfield 288, 3), (30, .iload 4, 2)]
set_option maxRecDepth 100000 in
theorem xi_ok333_0 : xi_ok cX12_jointsWith xi_333_0 = true := by decide +kernel
def xi_333_1 : XIs := [(32, .iadd, 1), (33, .iaload, 1), (34, .istore 5, 2), (36, .aload_n 0, 1), (37, .getfield 23, 3), (40, .aload_n 0, 1), (41, .getfield 288, 3), (44, .iload 4, 2), (46, .iadd, 1), (47, .iaload, 1), (48, .istore 6, 2), (50, .iload_n 3, 1), (51, .iload 5, 2), (53, .iload_n 1, 1), (54, .if_icmp .ne 12, 3), (57, .iload_n 2, 1)]
set_option maxRecDepth 100000 in
theorem xi_ok333_1 : xi_ok cX12_jointsWith xi_333_1 = true := by decide +kernel
def xi_333_2 : XIs := [(58, .iload 6, 2), (60, .invokestatic 427, 3), (63, .ifCond .ne 18, 3), (66, .iload 6, 2), (68, .iload_n 1, 1), (69, .if_icmp .ne 16, 3), (72, .iload_n 2, 1), (73, .iload 5, 2), (75, .invokestatic 427, 3), (78, .ifCond .eq 7, 3), (81, .iconst 1, 1), (82, .goto 4, 3), (85, .iconst 0, 1), (86, .iadd, 1), (87, .istore_n 3, 1), (88, .iinc 4 1, 3)]
set_option maxRecDepth 100000 in
theorem xi_ok333_2 : xi_ok cX12_jointsWith xi_333_2 = true := by decide +kernel
def xi_333_3 : XIs := [(91, .goto (-86), 3), (94, .iload_n 3, 1), (95, .ireturn, 1)]
set_option maxRecDepth 100000 in
theorem xi_ok333_3 : xi_ok cX12_jointsWith xi_333_3 = true := by decide +kernel
def xi_333 (pc : Nat) : XIs := cond (Nat.blt pc 58) (cond (Nat.blt pc 32) (xi_333_0) (xi_333_1)) (cond (Nat.blt pc 91) (xi_333_2) (xi_333_3))
theorem xi_ok333 (pc : Nat) : xi_ok cX12_jointsWith (xi_333 pc) = true := xi_c (xi_c (xi_ok333_0) (xi_ok333_1)) (xi_c (xi_ok333_2) (xi_ok333_3))
def xi_334 (pc : Nat) : XIs := []
theorem xi_ok334 (pc : Nat) : xi_ok cX12_core (xi_334 pc) = true := rfl
def xi_335_0 : XIs := [(0, .iconst 0, 1), (1, .istore_n 1, 1), (2, .iload_n 1, 1), (3, .aload_n 0, 1), (4, .getfield 285, 3), (7, .if_icmp .ge 16, 3), (10, .aload_n 0, 1), (11, .getfield 100, 3), (14, .iload_n 1, 1), (15, .iconst 0, 1), (16, .iastore, 1), (17, .iinc 1 1, 3), (20, .goto (-18), 3), (23, .iconst 0, 1), (24, .istore_n 1, 1), (25, .iload_n 1, 1)]
set_option maxRecDepth 100000 in
theorem xi_ok335_0 : xi_ok cX12_findBeside xi_335_0 = true := by decide +kernel
def xi_335_1 : XIs := [(26, .sipush 160, 3), (29, .if_icmp .ge 81, 3), (32, .aload_n 0, 1), (33, .iload_n 1, 1), (34, .invokevirtual 340, 3), (37, .ifCond .eq 67, 3), (40, .aload_n 0, 1), (41, .getfield 100, 3), (44, .aload_n 0, 1), (45, .getfield 20, 3), (48, .aload_n 0, 1), (49, .getfield 288, 3), (52, .iload_n 1, 1), (53, .iadd, 1), (54, .iaload, 1), (55, .dup2, 1)]
set_option maxRecDepth 100000 in
theorem xi_ok335_1 : xi_ok cX12_findBeside xi_335_1 = true := by decide +kernel
def xi_335_2 : XIs := [(56, .iaload, 1), (57, .iconst 1, 1), (58, .aload_n 0, 1), (59, .getfield 23, 3), (62, .aload_n 0, 1), (63, .getfield 288, 3), (66, .iload_n 1, 1), (67, .iadd, 1), (68, .iaload, 1), (69, .ishl, 1), (70, .ior, 1), (71, .iastore, 1), (72, .aload_n 0, 1), (73, .getfield 100, 3), (76, .aload_n 0, 1), (77, .getfield 23, 3)]
set_option maxRecDepth 100000 in
theorem xi_ok335_2 : xi_ok cX12_findBeside xi_335_2 = true := by decide +kernel
def xi_335_3 : XIs := [(80, .aload_n 0, 1), (81, .getfield 288, 3), (84, .iload_n 1, 1), (85, .iadd, 1), (86, .iaload, 1), (87, .dup2, 1), (88, .iaload, 1), (89, .iconst 1, 1), (90, .aload_n 0, 1), (91, .getfield 20, 3), (94, .aload_n 0, 1), (95, .getfield 288, 3), (98, .iload_n 1, 1), (99, .iadd, 1), (100, .iaload, 1), (101, .ishl, 1)]
set_option maxRecDepth 100000 in
theorem xi_ok335_3 : xi_ok cX12_findBeside xi_335_3 = true := by decide +kernel
def xi_335_4 : XIs := [(102, .ior, 1), (103, .iastore, 1), (104, .iinc 1 1, 3), (107, .goto (-82), 3), (110, .return_, 1)]
set_option maxRecDepth 100000 in
theorem xi_ok335_4 : xi_ok cX12_findBeside xi_335_4 = true := by decide +kernel
def xi_335 (pc : Nat) : XIs := cond (Nat.blt pc 56) (cond (Nat.blt pc 26) (xi_335_0) (xi_335_1)) (cond (Nat.blt pc 80) (xi_335_2) (cond (Nat.blt pc 102) (xi_335_3) (xi_335_4)))
theorem xi_ok335 (pc : Nat) : xi_ok cX12_findBeside (xi_335 pc) = true := xi_c (xi_c (xi_ok335_0) (xi_ok335_1)) (xi_c (xi_ok335_2) (xi_c (xi_ok335_3) (xi_ok335_4)))
def xi_336_0 : XIs := [(0, .iconst 0, 1), (1, .istore_n 1, 1), (2, .iconst 0, 1), (3, .istore_n 2, 1), (4, .iload_n 2, 1), (5, .bipush 32, 2), (7, .if_icmp .ge 17, 3), (10, .iload_n 1, 1), (11, .iload_n 0, 1), (12, .iload_n 2, 1), (13, .ishr, 1), (14, .iconst 1, 1), (15, .iand, 1), (16, .iadd, 1), (17, .istore_n 1, 1), (18, .iinc 2 1, 3)]
set_option maxRecDepth 100000 in
theorem xi_ok336_0 : xi_ok cX12_count xi_336_0 = true := by decide +kernel
def xi_336_1 : XIs := [(21, .goto (-17), 3), (24, .iload_n 1, 1), (25, .ireturn, 1)]
set_option maxRecDepth 100000 in
theorem xi_ok336_1 : xi_ok cX12_count xi_336_1 = true := by decide +kernel
def xi_336 (pc : Nat) : XIs := cond (Nat.blt pc 21) (xi_336_0) (xi_336_1)
theorem xi_ok336 (pc : Nat) : xi_ok cX12_count (xi_336 pc) = true := xi_c (xi_ok336_0) (xi_ok336_1)
def xi_337 (pc : Nat) : XIs := []
theorem xi_ok337 (pc : Nat) : xi_ok cX12_findClique (xi_337 pc) = true := rfl
def xi_338 (pc : Nat) : XIs := []
theorem xi_ok338 (pc : Nat) : xi_ok cX12_clique (xi_338 pc) = true := rfl
def xi_339 (pc : Nat) : XIs := []
theorem xi_ok339 (pc : Nat) : xi_ok cX12_barsOf (xi_339 pc) = true := rfl
def xi_340 (pc : Nat) : XIs := []
theorem xi_ok340 (pc : Nat) : xi_ok cX12_tightest (xi_340 pc) = true := rfl
def xi_341 (pc : Nat) : XIs := []
theorem xi_ok341 (pc : Nat) : xi_ok cX12_tough (xi_341 pc) = true := rfl
def xi_342 (pc : Nat) : XIs := []
theorem xi_ok342 (pc : Nat) : xi_ok cX12_hanging (xi_342 pc) = true := rfl
def xi_343 (pc : Nat) : XIs := []
theorem xi_ok343 (pc : Nat) : xi_ok cX12_isColourable (xi_343 pc) = true := rfl
def xi_344 (pc : Nat) : XIs := []
theorem xi_ok344 (pc : Nat) : xi_ok cX12_begin (xi_344 pc) = true := rfl
def xi_345 (pc : Nat) : XIs := []
theorem xi_ok345 (pc : Nat) : xi_ok cX12_isPartColourable (xi_345 pc) = true := rfl
def xi_346 (pc : Nat) : XIs := []
theorem xi_ok346 (pc : Nat) : xi_ok cX12_capped (xi_346 pc) = true := rfl
def xi_347 (pc : Nat) : XIs := []
theorem xi_ok347 (pc : Nat) : xi_ok cX12_colour (xi_347 pc) = true := rfl
def xi_348 (pc : Nat) : XIs := []
theorem xi_ok348 (pc : Nat) : xi_ok cX12_search (xi_348 pc) = true := rfl
def xi_349 (pc : Nat) : XIs := []
theorem xi_ok349 (pc : Nat) : xi_ok cX12_before (xi_349 pc) = true := rfl
def xi_350 (pc : Nat) : XIs := []
theorem xi_ok350 (pc : Nat) : xi_ok cX12_roomOn (xi_350 pc) = true := rfl
def xi_351 (pc : Nat) : XIs := []
theorem xi_ok351 (pc : Nat) : xi_ok cX12_push (xi_351 pc) = true := rfl
def xi_352 (pc : Nat) : XIs := []
theorem xi_ok352 (pc : Nat) : xi_ok cX12_most (xi_352 pc) = true := rfl
def xi_353 (pc : Nat) : XIs := []
theorem xi_ok353 (pc : Nat) : xi_ok cX12_twoNodes (xi_353 pc) = true := rfl
def xi_354 (pc : Nat) : XIs := []
theorem xi_ok354 (pc : Nat) : xi_ok cX12_flow (xi_354 pc) = true := rfl
def xi_355 (pc : Nat) : XIs := []
theorem xi_ok355 (pc : Nat) : xi_ok cX12_side (xi_355 pc) = true := rfl
def xi_356 (pc : Nat) : XIs := []
theorem xi_ok356 (pc : Nat) : xi_ok cX12_cheapest (xi_356 pc) = true := rfl
def xi_357 (pc : Nat) : XIs := []
theorem xi_ok357 (pc : Nat) : xi_ok cX12_cost (xi_357 pc) = true := rfl
def xi_358 (pc : Nat) : XIs := []
theorem xi_ok358 (pc : Nat) : xi_ok cX12_sends (xi_358 pc) = true := rfl
def xi_359 (pc : Nat) : XIs := []
theorem xi_ok359 (pc : Nat) : xi_ok cX12_isFirstSort (xi_359 pc) = true := rfl
def xi_360 (pc : Nat) : XIs := []
theorem xi_ok360 (pc : Nat) : xi_ok cX12_pairUp (xi_360 pc) = true := rfl
def xi_361 (pc : Nat) : XIs := []
theorem xi_ok361 (pc : Nat) : xi_ok cX12_cheapestPair (xi_361 pc) = true := rfl
def xi_362 (pc : Nat) : XIs := []
theorem xi_ok362 (pc : Nat) : xi_ok cX12_pairing (xi_362 pc) = true := rfl
def xi_363 (pc : Nat) : XIs := []
theorem xi_ok363 (pc : Nat) : xi_ok cX12_tree (xi_363 pc) = true := rfl
def xi_364 (pc : Nat) : XIs := []
theorem xi_ok364 (pc : Nat) : xi_ok cX12_rings (xi_364 pc) = true := rfl
def xi_365 (pc : Nat) : XIs := []
theorem xi_ok365 (pc : Nat) : xi_ok cX12_span (xi_365 pc) = true := rfl
def xi_366 (pc : Nat) : XIs := []
theorem xi_ok366 (pc : Nat) : xi_ok cX12_orderOf (xi_366 pc) = true := rfl
def xi_367 (pc : Nat) : XIs := []
theorem xi_ok367 (pc : Nat) : xi_ok cX12_power (xi_367 pc) = true := rfl
def xi_368 (pc : Nat) : XIs := []
theorem xi_ok368 (pc : Nat) : xi_ok cX12_trees (xi_368 pc) = true := rfl
def xi_369 (pc : Nat) : XIs := []
theorem xi_ok369 (pc : Nat) : xi_ok cX12_rank (xi_369 pc) = true := rfl
def xi_370 (pc : Nat) : XIs := []
theorem xi_ok370 (pc : Nat) : xi_ok cX12_hop (xi_370 pc) = true := rfl
def xi_371 (pc : Nat) : XIs := []
theorem xi_ok371 (pc : Nat) : xi_ok cX12_shortest (xi_371 pc) = true := rfl
def xi_372 (pc : Nat) : XIs := []
theorem xi_ok372 (pc : Nat) : xi_ok cX12_gainOf (xi_372 pc) = true := rfl
def xi_373 (pc : Nat) : XIs := []
theorem xi_ok373 (pc : Nat) : xi_ok cX12_gainIn (xi_373 pc) = true := rfl
def xi_374 (pc : Nat) : XIs := []
theorem xi_ok374 (pc : Nat) : xi_ok cX12_findGroups (xi_374 pc) = true := rfl
def xi_375 (pc : Nat) : XIs := []
theorem xi_ok375 (pc : Nat) : xi_ok cX12_leastOf (xi_375 pc) = true := rfl
def xi_376 (pc : Nat) : XIs := []
theorem xi_ok376 (pc : Nat) : xi_ok cX12_bestGroup (xi_376 pc) = true := rfl
def xi_377 (pc : Nat) : XIs := []
theorem xi_ok377 (pc : Nat) : xi_ok cX12_freeGroup (xi_377 pc) = true := rfl
def xi_378 (pc : Nat) : XIs := []
theorem xi_ok378 (pc : Nat) : xi_ok cX12_group (xi_378 pc) = true := rfl
def xi_379 (pc : Nat) : XIs := []
theorem xi_ok379 (pc : Nat) : xi_ok cX12_gain (xi_379 pc) = true := rfl
def xi_380 (pc : Nat) : XIs := []
theorem xi_ok380 (pc : Nat) : xi_ok cX12_figures (xi_380 pc) = true := rfl
def xi_381 (pc : Nat) : XIs := []
theorem xi_ok381 (pc : Nat) : xi_ok cX12_beginAlternative (xi_381 pc) = true := rfl
def xi_382 (pc : Nat) : XIs := []
theorem xi_ok382 (pc : Nat) : xi_ok cX12_beginSequence (xi_382 pc) = true := rfl
def xi_383 (pc : Nat) : XIs := []
theorem xi_ok383 (pc : Nat) : xi_ok cX12_follow (xi_383 pc) = true := rfl
def xi_384 (pc : Nat) : XIs := []
theorem xi_ok384 (pc : Nat) : xi_ok cX12_flush (xi_384 pc) = true := rfl
def xi_385 (pc : Nat) : XIs := []
theorem xi_ok385 (pc : Nat) : xi_ok cX12_endSequence (xi_385 pc) = true := rfl
def xi_386 (pc : Nat) : XIs := []
theorem xi_ok386 (pc : Nat) : xi_ok cX12_pattern (xi_386 pc) = true := rfl
def xi_387 (pc : Nat) : XIs := []
theorem xi_ok387 (pc : Nat) : xi_ok cX12_setAtom (xi_387 pc) = true := rfl
def xi_388 (pc : Nat) : XIs := []
theorem xi_ok388 (pc : Nat) : xi_ok cX12_sign (xi_388 pc) = true := rfl
def xi_389 (pc : Nat) : XIs := []
theorem xi_ok389 (pc : Nat) : xi_ok cX12_fits (xi_389 pc) = true := rfl
def xi_390 (pc : Nat) : XIs := []
theorem xi_ok390 (pc : Nat) : xi_ok cX12_goOn (xi_390 pc) = true := rfl
def xi_391 (pc : Nat) : XIs := []
theorem xi_ok391 (pc : Nat) : xi_ok cX12_program0 (xi_391 pc) = true := rfl
def xi_392 (pc : Nat) : XIs := []
theorem xi_ok392 (pc : Nat) : xi_ok cX12_nextOfProgram (xi_392 pc) = true := rfl
def xi_393 (pc : Nat) : XIs := []
theorem xi_ok393 (pc : Nat) : xi_ok cX12_add (xi_393 pc) = true := rfl
def xi_394 (pc : Nat) : XIs := []
theorem xi_ok394 (pc : Nat) : xi_ok cX12_nameOf (xi_394 pc) = true := rfl
def xi_395 (pc : Nat) : XIs := []
theorem xi_ok395 (pc : Nat) : xi_ok cX12_top (xi_395 pc) = true := rfl
def xi_396 (pc : Nat) : XIs := []
theorem xi_ok396 (pc : Nat) : xi_ok cX12_hold (xi_396 pc) = true := rfl
def xi_397 (pc : Nat) : XIs := []
theorem xi_ok397 (pc : Nat) : xi_ok cX12_drop (xi_397 pc) = true := rfl
def xi_398 (pc : Nat) : XIs := []
theorem xi_ok398 (pc : Nat) : xi_ok cX12_strength (xi_398 pc) = true := rfl
def xi_399 (pc : Nat) : XIs := []
theorem xi_ok399 (pc : Nat) : xi_ok cX12_settle (xi_399 pc) = true := rfl
def xi_400 (pc : Nat) : XIs := []
theorem xi_ok400 (pc : Nat) : xi_ok cX12_turn (xi_400 pc) = true := rfl
def xi_401 (pc : Nat) : XIs := []
theorem xi_ok401 (pc : Nat) : xi_ok cX12_factor (xi_401 pc) = true := rfl
def xi_402 (pc : Nat) : XIs := []
theorem xi_ok402 (pc : Nat) : xi_ok cX12_behindFactor (xi_402 pc) = true := rfl
def xi_403 (pc : Nat) : XIs := []
theorem xi_ok403 (pc : Nat) : xi_ok cX12_expression (xi_403 pc) = true := rfl
def xi_404 (pc : Nat) : XIs := []
theorem xi_ok404 (pc : Nat) : xi_ok cX12_program (xi_404 pc) = true := rfl
def xi_405 (pc : Nat) : XIs := []
theorem xi_ok405 (pc : Nat) : xi_ok cX12_fit (xi_405 pc) = true := rfl
def xi_406 (pc : Nat) : XIs := []
theorem xi_ok406 (pc : Nat) : xi_ok cX12_product (xi_406 pc) = true := rfl
def xi_407 (pc : Nat) : XIs := []
theorem xi_ok407 (pc : Nat) : xi_ok cX12_nameAll (xi_407 pc) = true := rfl
def xi_408 (pc : Nat) : XIs := []
theorem xi_ok408 (pc : Nat) : xi_ok cX12_workOut (xi_408 pc) = true := rfl
def xi_409 (pc : Nat) : XIs := []
theorem xi_ok409 (pc : Nat) : xi_ok cX12_run (xi_409 pc) = true := rfl
def xi_410 (pc : Nat) : XIs := []
theorem xi_ok410 (pc : Nat) : xi_ok cX12_goesTo (xi_410 pc) = true := rfl
def xi_411 (pc : Nat) : XIs := []
theorem xi_ok411 (pc : Nat) : xi_ok cX12_send (xi_411 pc) = true := rfl
def xi_412 (pc : Nat) : XIs := []
theorem xi_ok412 (pc : Nat) : xi_ok cX12_state (xi_412 pc) = true := rfl
def xi_413 (pc : Nat) : XIs := []
theorem xi_ok413 (pc : Nat) : xi_ok cX12_letters (xi_413 pc) = true := rfl
def xi_414 (pc : Nat) : XIs := []
theorem xi_ok414 (pc : Nat) : xi_ok cJ6_bitCount_0f7a4 (xi_414 pc) = true := rfl
def xi_415 (pc : Nat) : XIs := []
theorem xi_ok415 (pc : Nat) : xi_ok cJ13_bitCount_95d88 (xi_415 pc) = true := rfl
def xi_416 (pc : Nat) : XIs := []
theorem xi_ok416 (pc : Nat) : xi_ok cJ7_fill_d0a16 (xi_416 pc) = true := rfl
def xi_417 (pc : Nat) : XIs := []
theorem xi_ok417 (pc : Nat) : xi_ok cJ7_fill_53178 (xi_417 pc) = true := rfl
