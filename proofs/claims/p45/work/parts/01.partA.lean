section
-- ===== PART A: goes FIRST, ahead of the names: the tables' words, and 'selects' of the private methods out of them =====
/-- a private method of a class that the tables say can be made, by its rows of tables_1 -/
def lw_okq (q : MethodName × Nat) : Prop := (q.1.cls ≠ "java/lang/invoke/MethodHandle" ∧ q.1.cls ≠ "java/lang/invoke/VarHandle") ∧ Cond.instantiable q.1.cls q.2 ∈ tables_1 ∧ Cond.privateMethod q.1 ∈ tables_1 ∧ Cond.instanceMethod q.1 ∈ tables_1
theorem lw_p0 : lw_okq (⟨"DominoKing", "isStone", "(I)Z"⟩, 10) := ⟨⟨by decide +kernel, by decide +kernel⟩, List.mem_of_getElem? (i := 21) (by decide +kernel), List.mem_of_getElem? (i := 333) (by decide +kernel), List.mem_of_getElem? (i := 334) (by decide +kernel)⟩
theorem lw_p1 : lw_okq (⟨"DominoKing$Thoughts", "offerStone", "(LDominoKing$Table;II)V"⟩, 3) := ⟨⟨by decide +kernel, by decide +kernel⟩, List.mem_of_getElem? (i := 102) (by decide +kernel), List.mem_of_getElem? (i := 492) (by decide +kernel), List.mem_of_getElem? (i := 493) (by decide +kernel)⟩
theorem lw_p2 : lw_okq (⟨"DominoKing$Reader", "begin", "()V"⟩, 11) := ⟨⟨by decide +kernel, by decide +kernel⟩, List.mem_of_getElem? (i := 136) (by decide +kernel), List.mem_of_getElem? (i := 620) (by decide +kernel), List.mem_of_getElem? (i := 621) (by decide +kernel)⟩
theorem lw_p3 : lw_okq (⟨"DominoKing$Reader", "step", "()V"⟩, 11) := ⟨⟨by decide +kernel, by decide +kernel⟩, List.mem_of_getElem? (i := 136) (by decide +kernel), List.mem_of_getElem? (i := 624) (by decide +kernel), List.mem_of_getElem? (i := 625) (by decide +kernel)⟩
theorem lw_p4 : lw_okq (⟨"DominoKing$Reader", "sortAt", "(I)I"⟩, 11) := ⟨⟨by decide +kernel, by decide +kernel⟩, List.mem_of_getElem? (i := 136) (by decide +kernel), List.mem_of_getElem? (i := 628) (by decide +kernel), List.mem_of_getElem? (i := 629) (by decide +kernel)⟩
theorem lw_p5 : lw_okq (⟨"DominoKing$Reader", "keyAtHand", "()I"⟩, 11) := ⟨⟨by decide +kernel, by decide +kernel⟩, List.mem_of_getElem? (i := 136) (by decide +kernel), List.mem_of_getElem? (i := 632) (by decide +kernel), List.mem_of_getElem? (i := 633) (by decide +kernel)⟩
theorem lw_p6 : lw_okq (⟨"DominoKing$Reader", "wordIs", "(Ljava/lang/String;)Z"⟩, 11) := ⟨⟨by decide +kernel, by decide +kernel⟩, List.mem_of_getElem? (i := 136) (by decide +kernel), List.mem_of_getElem? (i := 637) (by decide +kernel), List.mem_of_getElem? (i := 638) (by decide +kernel)⟩
theorem lw_p7 : lw_okq (⟨"DominoKing$Reader", "readLevel", "(III)V"⟩, 11) := ⟨⟨by decide +kernel, by decide +kernel⟩, List.mem_of_getElem? (i := 136) (by decide +kernel), List.mem_of_getElem? (i := 694) (by decide +kernel), List.mem_of_getElem? (i := 695) (by decide +kernel)⟩
theorem lw_p8 : lw_okq (⟨"DominoKing$Reader", "readPiece", "(II)V"⟩, 11) := ⟨⟨by decide +kernel, by decide +kernel⟩, List.mem_of_getElem? (i := 136) (by decide +kernel), List.mem_of_getElem? (i := 698) (by decide +kernel), List.mem_of_getElem? (i := 699) (by decide +kernel)⟩
theorem lw_p9 : lw_okq (⟨"DominoKing$Reader", "signAtHand", "()I"⟩, 11) := ⟨⟨by decide +kernel, by decide +kernel⟩, List.mem_of_getElem? (i := 136) (by decide +kernel), List.mem_of_getElem? (i := 702) (by decide +kernel), List.mem_of_getElem? (i := 703) (by decide +kernel)⟩
theorem lw_p10 : lw_okq (⟨"DominoKing$Reader", "emit", "(II)V"⟩, 11) := ⟨⟨by decide +kernel, by decide +kernel⟩, List.mem_of_getElem? (i := 136) (by decide +kernel), List.mem_of_getElem? (i := 706) (by decide +kernel), List.mem_of_getElem? (i := 707) (by decide +kernel)⟩
theorem lw_p11 : lw_okq (⟨"DominoKing$Reader", "close", "()V"⟩, 11) := ⟨⟨by decide +kernel, by decide +kernel⟩, List.mem_of_getElem? (i := 136) (by decide +kernel), List.mem_of_getElem? (i := 710) (by decide +kernel), List.mem_of_getElem? (i := 711) (by decide +kernel)⟩
theorem lw_p12 : lw_okq (⟨"DominoKing$Reader", "readOperand", "()V"⟩, 11) := ⟨⟨by decide +kernel, by decide +kernel⟩, List.mem_of_getElem? (i := 136) (by decide +kernel), List.mem_of_getElem? (i := 714) (by decide +kernel), List.mem_of_getElem? (i := 715) (by decide +kernel)⟩
theorem lw_p13 : lw_okq (⟨"DominoKing$Reader", "numberAtHand", "()I"⟩, 11) := ⟨⟨by decide +kernel, by decide +kernel⟩, List.mem_of_getElem? (i := 136) (by decide +kernel), List.mem_of_getElem? (i := 718) (by decide +kernel), List.mem_of_getElem? (i := 719) (by decide +kernel)⟩
theorem lw_p14 : lw_okq (⟨"DominoKing$Reader", "nameAtHand", "()I"⟩, 11) := ⟨⟨by decide +kernel, by decide +kernel⟩, List.mem_of_getElem? (i := 136) (by decide +kernel), List.mem_of_getElem? (i := 722) (by decide +kernel), List.mem_of_getElem? (i := 723) (by decide +kernel)⟩
theorem lw_p15 : lw_okq (⟨"DominoKing", "lookFor", "(II)I"⟩, 10) := ⟨⟨by decide +kernel, by decide +kernel⟩, List.mem_of_getElem? (i := 21) (by decide +kernel), List.mem_of_getElem? (i := 894) (by decide +kernel), List.mem_of_getElem? (i := 895) (by decide +kernel)⟩
def lw_privs_1 : List (MethodName × Nat) := [(⟨"DominoKing", "isStone", "(I)Z"⟩, 10), (⟨"DominoKing$Thoughts", "offerStone", "(LDominoKing$Table;II)V"⟩, 3), (⟨"DominoKing$Reader", "begin", "()V"⟩, 11), (⟨"DominoKing$Reader", "step", "()V"⟩, 11), (⟨"DominoKing$Reader", "sortAt", "(I)I"⟩, 11), (⟨"DominoKing$Reader", "keyAtHand", "()I"⟩, 11), (⟨"DominoKing$Reader", "wordIs", "(Ljava/lang/String;)Z"⟩, 11), (⟨"DominoKing$Reader", "readLevel", "(III)V"⟩, 11), (⟨"DominoKing$Reader", "readPiece", "(II)V"⟩, 11), (⟨"DominoKing$Reader", "signAtHand", "()I"⟩, 11), (⟨"DominoKing$Reader", "emit", "(II)V"⟩, 11), (⟨"DominoKing$Reader", "close", "()V"⟩, 11), (⟨"DominoKing$Reader", "readOperand", "()V"⟩, 11), (⟨"DominoKing$Reader", "numberAtHand", "()I"⟩, 11), (⟨"DominoKing$Reader", "nameAtHand", "()I"⟩, 11), (⟨"DominoKing", "lookFor", "(II)I"⟩, 10)]
theorem lw_r1 : ∀ q ∈ lw_privs_1, lw_okq q := List.forall_mem_cons.mpr ⟨lw_p0, List.forall_mem_cons.mpr ⟨lw_p1, List.forall_mem_cons.mpr ⟨lw_p2, List.forall_mem_cons.mpr ⟨lw_p3, List.forall_mem_cons.mpr ⟨lw_p4, List.forall_mem_cons.mpr ⟨lw_p5, List.forall_mem_cons.mpr ⟨lw_p6, List.forall_mem_cons.mpr ⟨lw_p7, List.forall_mem_cons.mpr ⟨lw_p8, List.forall_mem_cons.mpr ⟨lw_p9, List.forall_mem_cons.mpr ⟨lw_p10, List.forall_mem_cons.mpr ⟨lw_p11, List.forall_mem_cons.mpr ⟨lw_p12, List.forall_mem_cons.mpr ⟨lw_p13, List.forall_mem_cons.mpr ⟨lw_p14, List.forall_mem_cons.mpr ⟨lw_p15, fun _ h => absurd h List.not_mem_nil⟩⟩⟩⟩⟩⟩⟩⟩⟩⟩⟩⟩⟩⟩⟩⟩
theorem lw_p16 : lw_okq (⟨"DominoKingModel", "comes", "(III)I"⟩, 36) := ⟨⟨by decide +kernel, by decide +kernel⟩, List.mem_of_getElem? (i := 932) (by decide +kernel), List.mem_of_getElem? (i := 1058) (by decide +kernel), List.mem_of_getElem? (i := 1059) (by decide +kernel)⟩
theorem lw_p17 : lw_okq (⟨"DominoKingModel", "isStone", "(I)Z"⟩, 36) := ⟨⟨by decide +kernel, by decide +kernel⟩, List.mem_of_getElem? (i := 932) (by decide +kernel), List.mem_of_getElem? (i := 1066) (by decide +kernel), List.mem_of_getElem? (i := 1067) (by decide +kernel)⟩
theorem lw_p18 : lw_okq (⟨"DominoKingModel", "of", "(II)I"⟩, 36) := ⟨⟨by decide +kernel, by decide +kernel⟩, List.mem_of_getElem? (i := 932) (by decide +kernel), List.mem_of_getElem? (i := 1070) (by decide +kernel), List.mem_of_getElem? (i := 1071) (by decide +kernel)⟩
theorem lw_p19 : lw_okq (⟨"DominoKingModel", "heavyOf", "(I)I"⟩, 36) := ⟨⟨by decide +kernel, by decide +kernel⟩, List.mem_of_getElem? (i := 932) (by decide +kernel), List.mem_of_getElem? (i := 1074) (by decide +kernel), List.mem_of_getElem? (i := 1075) (by decide +kernel)⟩
theorem lw_p20 : lw_okq (⟨"DominoKingModel", "worthOf", "(I)I"⟩, 36) := ⟨⟨by decide +kernel, by decide +kernel⟩, List.mem_of_getElem? (i := 932) (by decide +kernel), List.mem_of_getElem? (i := 1078) (by decide +kernel), List.mem_of_getElem? (i := 1079) (by decide +kernel)⟩
theorem lw_p21 : lw_okq (⟨"DominoKingModel", "offOf", "(III)I"⟩, 36) := ⟨⟨by decide +kernel, by decide +kernel⟩, List.mem_of_getElem? (i := 932) (by decide +kernel), List.mem_of_getElem? (i := 1089) (by decide +kernel), List.mem_of_getElem? (i := 1090) (by decide +kernel)⟩
theorem lw_p22 : lw_okq (⟨"DominoKingModel", "spotsOf", "(III)I"⟩, 36) := ⟨⟨by decide +kernel, by decide +kernel⟩, List.mem_of_getElem? (i := 932) (by decide +kernel), List.mem_of_getElem? (i := 1093) (by decide +kernel), List.mem_of_getElem? (i := 1094) (by decide +kernel)⟩
theorem lw_p23 : lw_okq (⟨"DominoKingModel", "darkOf", "(III)I"⟩, 36) := ⟨⟨by decide +kernel, by decide +kernel⟩, List.mem_of_getElem? (i := 932) (by decide +kernel), List.mem_of_getElem? (i := 1097) (by decide +kernel), List.mem_of_getElem? (i := 1098) (by decide +kernel)⟩
theorem lw_p24 : lw_okq (⟨"DominoKingModel", "counts", "(I)I"⟩, 36) := ⟨⟨by decide +kernel, by decide +kernel⟩, List.mem_of_getElem? (i := 932) (by decide +kernel), List.mem_of_getElem? (i := 1101) (by decide +kernel), List.mem_of_getElem? (i := 1102) (by decide +kernel)⟩
theorem lw_p25 : lw_okq (⟨"DominoKingModel", "worksOut", "(I)I"⟩, 36) := ⟨⟨by decide +kernel, by decide +kernel⟩, List.mem_of_getElem? (i := 932) (by decide +kernel), List.mem_of_getElem? (i := 1105) (by decide +kernel), List.mem_of_getElem? (i := 1106) (by decide +kernel)⟩
theorem lw_p26 : lw_okq (⟨"DominoKingModel", "becomes", "(II)I"⟩, 36) := ⟨⟨by decide +kernel, by decide +kernel⟩, List.mem_of_getElem? (i := 932) (by decide +kernel), List.mem_of_getElem? (i := 1130) (by decide +kernel), List.mem_of_getElem? (i := 1131) (by decide +kernel)⟩
theorem lw_p27 : lw_okq (⟨"DominoKingModel", "holder", "(I)I"⟩, 36) := ⟨⟨by decide +kernel, by decide +kernel⟩, List.mem_of_getElem? (i := 932) (by decide +kernel), List.mem_of_getElem? (i := 1138) (by decide +kernel), List.mem_of_getElem? (i := 1139) (by decide +kernel)⟩
theorem lw_p28 : lw_okq (⟨"DominoKingModel", "draw", "()I"⟩, 36) := ⟨⟨by decide +kernel, by decide +kernel⟩, List.mem_of_getElem? (i := 932) (by decide +kernel), List.mem_of_getElem? (i := 1159) (by decide +kernel), List.mem_of_getElem? (i := 1160) (by decide +kernel)⟩
theorem lw_p29 : lw_okq (⟨"DominoKingModel", "manyLaid", "()I"⟩, 36) := ⟨⟨by decide +kernel, by decide +kernel⟩, List.mem_of_getElem? (i := 932) (by decide +kernel), List.mem_of_getElem? (i := 1172) (by decide +kernel), List.mem_of_getElem? (i := 1173) (by decide +kernel)⟩
theorem lw_p30 : lw_okq (⟨"DominoKingModel", "goesOn", "(I)V"⟩, 36) := ⟨⟨by decide +kernel, by decide +kernel⟩, List.mem_of_getElem? (i := 932) (by decide +kernel), List.mem_of_getElem? (i := 1176) (by decide +kernel), List.mem_of_getElem? (i := 1177) (by decide +kernel)⟩
theorem lw_p31 : lw_okq (⟨"DominoKingModel", "day", "()V"⟩, 36) := ⟨⟨by decide +kernel, by decide +kernel⟩, List.mem_of_getElem? (i := 932) (by decide +kernel), List.mem_of_getElem? (i := 1180) (by decide +kernel), List.mem_of_getElem? (i := 1181) (by decide +kernel)⟩
def lw_privs_2 : List (MethodName × Nat) := [(⟨"DominoKingModel", "comes", "(III)I"⟩, 36), (⟨"DominoKingModel", "isStone", "(I)Z"⟩, 36), (⟨"DominoKingModel", "of", "(II)I"⟩, 36), (⟨"DominoKingModel", "heavyOf", "(I)I"⟩, 36), (⟨"DominoKingModel", "worthOf", "(I)I"⟩, 36), (⟨"DominoKingModel", "offOf", "(III)I"⟩, 36), (⟨"DominoKingModel", "spotsOf", "(III)I"⟩, 36), (⟨"DominoKingModel", "darkOf", "(III)I"⟩, 36), (⟨"DominoKingModel", "counts", "(I)I"⟩, 36), (⟨"DominoKingModel", "worksOut", "(I)I"⟩, 36), (⟨"DominoKingModel", "becomes", "(II)I"⟩, 36), (⟨"DominoKingModel", "holder", "(I)I"⟩, 36), (⟨"DominoKingModel", "draw", "()I"⟩, 36), (⟨"DominoKingModel", "manyLaid", "()I"⟩, 36), (⟨"DominoKingModel", "goesOn", "(I)V"⟩, 36), (⟨"DominoKingModel", "day", "()V"⟩, 36)]
theorem lw_r2 : ∀ q ∈ lw_privs_2, lw_okq q := List.forall_mem_cons.mpr ⟨lw_p16, List.forall_mem_cons.mpr ⟨lw_p17, List.forall_mem_cons.mpr ⟨lw_p18, List.forall_mem_cons.mpr ⟨lw_p19, List.forall_mem_cons.mpr ⟨lw_p20, List.forall_mem_cons.mpr ⟨lw_p21, List.forall_mem_cons.mpr ⟨lw_p22, List.forall_mem_cons.mpr ⟨lw_p23, List.forall_mem_cons.mpr ⟨lw_p24, List.forall_mem_cons.mpr ⟨lw_p25, List.forall_mem_cons.mpr ⟨lw_p26, List.forall_mem_cons.mpr ⟨lw_p27, List.forall_mem_cons.mpr ⟨lw_p28, List.forall_mem_cons.mpr ⟨lw_p29, List.forall_mem_cons.mpr ⟨lw_p30, List.forall_mem_cons.mpr ⟨lw_p31, fun _ h => absurd h List.not_mem_nil⟩⟩⟩⟩⟩⟩⟩⟩⟩⟩⟩⟩⟩⟩⟩⟩
theorem lw_p32 : lw_okq (⟨"DominoKingModel", "laysIn", "(I)V"⟩, 36) := ⟨⟨by decide +kernel, by decide +kernel⟩, List.mem_of_getElem? (i := 932) (by decide +kernel), List.mem_of_getElem? (i := 1184) (by decide +kernel), List.mem_of_getElem? (i := 1185) (by decide +kernel)⟩
theorem lw_p33 : lw_okq (⟨"DominoKingModel", "picture", "()I"⟩, 36) := ⟨⟨by decide +kernel, by decide +kernel⟩, List.mem_of_getElem? (i := 932) (by decide +kernel), List.mem_of_getElem? (i := 1192) (by decide +kernel), List.mem_of_getElem? (i := 1193) (by decide +kernel)⟩
theorem lw_p34 : lw_okq (⟨"DominoKingModel", "matches", "()I"⟩, 36) := ⟨⟨by decide +kernel, by decide +kernel⟩, List.mem_of_getElem? (i := 932) (by decide +kernel), List.mem_of_getElem? (i := 1196) (by decide +kernel), List.mem_of_getElem? (i := 1197) (by decide +kernel)⟩
theorem lw_p35 : lw_okq (⟨"DominoKingModel", "layable", "(I)I"⟩, 36) := ⟨⟨by decide +kernel, by decide +kernel⟩, List.mem_of_getElem? (i := 932) (by decide +kernel), List.mem_of_getElem? (i := 1212) (by decide +kernel), List.mem_of_getElem? (i := 1213) (by decide +kernel)⟩
theorem lw_p36 : lw_okq (⟨"DominoKingModel", "leastAt", "(II)I"⟩, 36) := ⟨⟨by decide +kernel, by decide +kernel⟩, List.mem_of_getElem? (i := 932) (by decide +kernel), List.mem_of_getElem? (i := 1216) (by decide +kernel), List.mem_of_getElem? (i := 1217) (by decide +kernel)⟩
theorem lw_p37 : lw_okq (⟨"DominoKingModel", "change", "(II)V"⟩, 36) := ⟨⟨by decide +kernel, by decide +kernel⟩, List.mem_of_getElem? (i := 932) (by decide +kernel), List.mem_of_getElem? (i := 1231) (by decide +kernel), List.mem_of_getElem? (i := 1232) (by decide +kernel)⟩
theorem lw_p38 : lw_okq (⟨"DominoKingModel", "falls", "(I)I"⟩, 36) := ⟨⟨by decide +kernel, by decide +kernel⟩, List.mem_of_getElem? (i := 932) (by decide +kernel), List.mem_of_getElem? (i := 1239) (by decide +kernel), List.mem_of_getElem? (i := 1240) (by decide +kernel)⟩
theorem lw_p39 : lw_okq (⟨"DominoKingModel", "thinks", "()V"⟩, 36) := ⟨⟨by decide +kernel, by decide +kernel⟩, List.mem_of_getElem? (i := 932) (by decide +kernel), List.mem_of_getElem? (i := 1251) (by decide +kernel), List.mem_of_getElem? (i := 1252) (by decide +kernel)⟩
theorem lw_p40 : lw_okq (⟨"DominoKingModel", "putsBack", "()V"⟩, 36) := ⟨⟨by decide +kernel, by decide +kernel⟩, List.mem_of_getElem? (i := 932) (by decide +kernel), List.mem_of_getElem? (i := 1256) (by decide +kernel), List.mem_of_getElem? (i := 1257) (by decide +kernel)⟩
theorem lw_p41 : lw_okq (⟨"DominoKingModel", "isLaid", "()Z"⟩, 36) := ⟨⟨by decide +kernel, by decide +kernel⟩, List.mem_of_getElem? (i := 932) (by decide +kernel), List.mem_of_getElem? (i := 1264) (by decide +kernel), List.mem_of_getElem? (i := 1265) (by decide +kernel)⟩
theorem lw_p42 : lw_okq (⟨"DominoKingModel", "offBy", "(II)J"⟩, 36) := ⟨⟨by decide +kernel, by decide +kernel⟩, List.mem_of_getElem? (i := 932) (by decide +kernel), List.mem_of_getElem? (i := 1280) (by decide +kernel), List.mem_of_getElem? (i := 1281) (by decide +kernel)⟩
theorem lw_p43 : lw_okq (⟨"DominoKingModel", "darkAt", "(I)I"⟩, 36) := ⟨⟨by decide +kernel, by decide +kernel⟩, List.mem_of_getElem? (i := 932) (by decide +kernel), List.mem_of_getElem? (i := 1284) (by decide +kernel), List.mem_of_getElem? (i := 1285) (by decide +kernel)⟩
theorem lw_p44 : lw_okq (⟨"DominoKingModel", "go", "()V"⟩, 36) := ⟨⟨by decide +kernel, by decide +kernel⟩, List.mem_of_getElem? (i := 932) (by decide +kernel), List.mem_of_getElem? (i := 1308) (by decide +kernel), List.mem_of_getElem? (i := 1309) (by decide +kernel)⟩
theorem lw_p45 : lw_okq (⟨"DominoKingModel", "isLetter", "(I)Z"⟩, 36) := ⟨⟨by decide +kernel, by decide +kernel⟩, List.mem_of_getElem? (i := 932) (by decide +kernel), List.mem_of_getElem? (i := 1312) (by decide +kernel), List.mem_of_getElem? (i := 1313) (by decide +kernel)⟩
theorem lw_p46 : lw_okq (⟨"DominoKingModel", "isFigure", "(I)Z"⟩, 36) := ⟨⟨by decide +kernel, by decide +kernel⟩, List.mem_of_getElem? (i := 932) (by decide +kernel), List.mem_of_getElem? (i := 1316) (by decide +kernel), List.mem_of_getElem? (i := 1317) (by decide +kernel)⟩
theorem lw_p47 : lw_okq (⟨"DominoKingModel", "takesKey", "()Z"⟩, 36) := ⟨⟨by decide +kernel, by decide +kernel⟩, List.mem_of_getElem? (i := 932) (by decide +kernel), List.mem_of_getElem? (i := 1320) (by decide +kernel), List.mem_of_getElem? (i := 1321) (by decide +kernel)⟩
def lw_privs_3 : List (MethodName × Nat) := [(⟨"DominoKingModel", "laysIn", "(I)V"⟩, 36), (⟨"DominoKingModel", "picture", "()I"⟩, 36), (⟨"DominoKingModel", "matches", "()I"⟩, 36), (⟨"DominoKingModel", "layable", "(I)I"⟩, 36), (⟨"DominoKingModel", "leastAt", "(II)I"⟩, 36), (⟨"DominoKingModel", "change", "(II)V"⟩, 36), (⟨"DominoKingModel", "falls", "(I)I"⟩, 36), (⟨"DominoKingModel", "thinks", "()V"⟩, 36), (⟨"DominoKingModel", "putsBack", "()V"⟩, 36), (⟨"DominoKingModel", "isLaid", "()Z"⟩, 36), (⟨"DominoKingModel", "offBy", "(II)J"⟩, 36), (⟨"DominoKingModel", "darkAt", "(I)I"⟩, 36), (⟨"DominoKingModel", "go", "()V"⟩, 36), (⟨"DominoKingModel", "isLetter", "(I)Z"⟩, 36), (⟨"DominoKingModel", "isFigure", "(I)Z"⟩, 36), (⟨"DominoKingModel", "takesKey", "()Z"⟩, 36)]
theorem lw_r3 : ∀ q ∈ lw_privs_3, lw_okq q := List.forall_mem_cons.mpr ⟨lw_p32, List.forall_mem_cons.mpr ⟨lw_p33, List.forall_mem_cons.mpr ⟨lw_p34, List.forall_mem_cons.mpr ⟨lw_p35, List.forall_mem_cons.mpr ⟨lw_p36, List.forall_mem_cons.mpr ⟨lw_p37, List.forall_mem_cons.mpr ⟨lw_p38, List.forall_mem_cons.mpr ⟨lw_p39, List.forall_mem_cons.mpr ⟨lw_p40, List.forall_mem_cons.mpr ⟨lw_p41, List.forall_mem_cons.mpr ⟨lw_p42, List.forall_mem_cons.mpr ⟨lw_p43, List.forall_mem_cons.mpr ⟨lw_p44, List.forall_mem_cons.mpr ⟨lw_p45, List.forall_mem_cons.mpr ⟨lw_p46, List.forall_mem_cons.mpr ⟨lw_p47, fun _ h => absurd h List.not_mem_nil⟩⟩⟩⟩⟩⟩⟩⟩⟩⟩⟩⟩⟩⟩⟩⟩
theorem lw_p48 : lw_okq (⟨"DominoKingModel", "takesE", "()Z"⟩, 36) := ⟨⟨by decide +kernel, by decide +kernel⟩, List.mem_of_getElem? (i := 932) (by decide +kernel), List.mem_of_getElem? (i := 1324) (by decide +kernel), List.mem_of_getElem? (i := 1325) (by decide +kernel)⟩
theorem lw_p49 : lw_okq (⟨"DominoKingModel", "takesPart", "()Z"⟩, 36) := ⟨⟨by decide +kernel, by decide +kernel⟩, List.mem_of_getElem? (i := 932) (by decide +kernel), List.mem_of_getElem? (i := 1328) (by decide +kernel), List.mem_of_getElem? (i := 1329) (by decide +kernel)⟩
theorem lw_p50 : lw_okq (⟨"DominoKingModel", "nameOf", "(I)I"⟩, 36) := ⟨⟨by decide +kernel, by decide +kernel⟩, List.mem_of_getElem? (i := 932) (by decide +kernel), List.mem_of_getElem? (i := 1332) (by decide +kernel), List.mem_of_getElem? (i := 1333) (by decide +kernel)⟩
theorem lw_p51 : lw_okq (⟨"DominoKingModel", "settle", "(I)V"⟩, 36) := ⟨⟨by decide +kernel, by decide +kernel⟩, List.mem_of_getElem? (i := 932) (by decide +kernel), List.mem_of_getElem? (i := 1336) (by decide +kernel), List.mem_of_getElem? (i := 1337) (by decide +kernel)⟩
theorem lw_p52 : lw_okq (⟨"DominoKingModel", "notsOpen", "()I"⟩, 36) := ⟨⟨by decide +kernel, by decide +kernel⟩, List.mem_of_getElem? (i := 932) (by decide +kernel), List.mem_of_getElem? (i := 1343) (by decide +kernel), List.mem_of_getElem? (i := 1344) (by decide +kernel)⟩
theorem lw_p53 : lw_okq (⟨"DominoKingModel", "signHere", "()I"⟩, 36) := ⟨⟨by decide +kernel, by decide +kernel⟩, List.mem_of_getElem? (i := 932) (by decide +kernel), List.mem_of_getElem? (i := 1347) (by decide +kernel), List.mem_of_getElem? (i := 1348) (by decide +kernel)⟩
def lw_privs_4 : List (MethodName × Nat) := [(⟨"DominoKingModel", "takesE", "()Z"⟩, 36), (⟨"DominoKingModel", "takesPart", "()Z"⟩, 36), (⟨"DominoKingModel", "nameOf", "(I)I"⟩, 36), (⟨"DominoKingModel", "settle", "(I)V"⟩, 36), (⟨"DominoKingModel", "notsOpen", "()I"⟩, 36), (⟨"DominoKingModel", "signHere", "()I"⟩, 36)]
theorem lw_r4 : ∀ q ∈ lw_privs_4, lw_okq q := List.forall_mem_cons.mpr ⟨lw_p48, List.forall_mem_cons.mpr ⟨lw_p49, List.forall_mem_cons.mpr ⟨lw_p50, List.forall_mem_cons.mpr ⟨lw_p51, List.forall_mem_cons.mpr ⟨lw_p52, List.forall_mem_cons.mpr ⟨lw_p53, fun _ h => absurd h List.not_mem_nil⟩⟩⟩⟩⟩⟩
def lw_privs : List (MethodName × Nat) := lw_privs_1 ++ (lw_privs_2 ++ (lw_privs_3 ++ (lw_privs_4)))
def lw_tbl : List Cond := k2_sels lw_privs ++ tables_1
theorem lw_privs_ok : ∀ q ∈ lw_privs, lw_okq q := by
  show ∀ q ∈ lw_privs_1 ++ (lw_privs_2 ++ (lw_privs_3 ++ (lw_privs_4))), lw_okq q
  exact List.forall_mem_append.mpr ⟨lw_r1, List.forall_mem_append.mpr ⟨lw_r2, List.forall_mem_append.mpr ⟨lw_r3, lw_r4⟩⟩⟩
end
section
/-! ===== BEGIN words of one list among another's, by their places ===== -/
/-! ===== END ===== -/

/-! ===== BEGIN printed: names, fields, word lists, decode rows ===== -/
def RX0 : String := "DominoKing$Kinds"
abbrev cX0_isOf : ByteArray := prog_2_method_2_code
def yX0_isOf : MethodName := ⟨RX0, "isOf", "(II)Z"⟩
abbrev cX0_dark : ByteArray := prog_2_method_3_code
def yX0_dark : MethodName := ⟨RX0, "dark", "(II)I"⟩
abbrev cX0_heavy : ByteArray := prog_2_method_4_code
def yX0_heavy : MethodName := ⟨RX0, "heavy", "(III)I"⟩
abbrev cX0_worth : ByteArray := prog_2_method_5_code
def yX0_worth : MethodName := ⟨RX0, "worth", "(III)I"⟩
def RX1 : String := "DominoKing$Reader"
def TX1 : u_T := fun k => match k with
  | 0 => ("DominoKing$Reader", "fault", "I", false)
  | 1 => ("DominoKing$Reader", "tape", "LDominoKing$Tape;", true)
  | 2 => ("DominoKing$Reader", "signs", "[I", true)
  | 3 => ("DominoKing$Reader", "values", "[I", true)
  | 4 => ("DominoKing$Reader", "length", "I", false)
  | 5 => ("DominoKing$Reader", "operands", "I", false)
  | 6 => ("DominoKing$Reader", "names", "Ljava/lang/String;", false)
  | 7 => ("DominoKing$Reader", "sort", "I", false)
  | 8 => ("DominoKing$Reader", "start", "I", false)
  | 9 => ("DominoKing$Reader", "stop", "I", false)
  | _ => ("DominoKing$Reader", "lacksBlank", "Z", false)
def tyX1 : Nat → FieldType := fun k => match k with
  | 0 => .int
  | 1 => .object "DominoKing$Tape"
  | 2 => .array .int
  | 3 => .array .int
  | 4 => .int
  | 5 => .int
  | 6 => .object "java/lang/String"
  | 7 => .int
  | 8 => .int
  | 9 => .int
  | _ => .boolean
theorem nmX1 : ∀ a, a < 11 → ∀ b, b < 11 → a ≠ b → (TX1 a).2.1 ≠ (TX1 b).2.1 := by decide +kernel
theorem tyX1_ok : ∀ k, k < 11 → parseFieldDescriptor (TX1 k).2.2.1 = some (tyX1 k) := by decide +kernel
abbrev cX1_init : ByteArray := prog_3_method_1_code
def yX1_init : MethodName := ⟨RX1, "<init>", "(LDominoKing$Tape;)V"⟩
abbrev cX1_readText : ByteArray := prog_3_method_2_code
def yX1_readText : MethodName := ⟨RX1, "readText", "()LDominoKing$Text;"⟩
abbrev cX1_begin : ByteArray := prog_3_method_3_code
def yX1_begin : MethodName := ⟨RX1, "begin", "()V"⟩
abbrev cX1_keyAtHand : ByteArray := prog_3_method_4_code
def yX1_keyAtHand : MethodName := ⟨RX1, "keyAtHand", "()I"⟩
abbrev cX1_wordIs : ByteArray := prog_3_method_5_code
def yX1_wordIs : MethodName := ⟨RX1, "wordIs", "(Ljava/lang/String;)Z"⟩
abbrev cX1_step : ByteArray := prog_3_method_6_code
def yX1_step : MethodName := ⟨RX1, "step", "()V"⟩
abbrev cX1_sortAt : ByteArray := prog_3_method_7_code
def yX1_sortAt : MethodName := ⟨RX1, "sortAt", "(I)I"⟩
abbrev cX1_signAtHand : ByteArray := prog_3_method_8_code
def yX1_signAtHand : MethodName := ⟨RX1, "signAtHand", "()I"⟩
abbrev cX1_readLevel : ByteArray := prog_3_method_9_code
def yX1_readLevel : MethodName := ⟨RX1, "readLevel", "(III)V"⟩
abbrev cX1_levelOf : ByteArray := prog_3_method_10_code
def yX1_levelOf : MethodName := ⟨RX1, "levelOf", "(I)I"⟩
abbrev cX1_readPiece : ByteArray := prog_3_method_11_code
def yX1_readPiece : MethodName := ⟨RX1, "readPiece", "(II)V"⟩
abbrev cX1_close : ByteArray := prog_3_method_12_code
def yX1_close : MethodName := ⟨RX1, "close", "()V"⟩
abbrev cX1_readOperand : ByteArray := prog_3_method_13_code
def yX1_readOperand : MethodName := ⟨RX1, "readOperand", "()V"⟩
abbrev cX1_numberAtHand : ByteArray := prog_3_method_14_code
def yX1_numberAtHand : MethodName := ⟨RX1, "numberAtHand", "()I"⟩
abbrev cX1_nameAtHand : ByteArray := prog_3_method_15_code
def yX1_nameAtHand : MethodName := ⟨RX1, "nameAtHand", "()I"⟩
abbrev cX1_emit : ByteArray := prog_3_method_16_code
def yX1_emit : MethodName := ⟨RX1, "emit", "(II)V"⟩
def RX2 : String := "DominoKing$Sheet"
def TX2 : u_T := fun k => match k with
  | 0 => ("DominoKing$Sheet", "row", "[I", true)
  | 1 => ("DominoKing$Sheet", "sort", "I", false)
  | _ => ("DominoKing$Sheet", "size", "I", false)
def tyX2 : Nat → FieldType := fun k => match k with
  | 0 => .array .int
  | 1 => .int
  | _ => .int
theorem nmX2 : ∀ a, a < 3 → ∀ b, b < 3 → a ≠ b → (TX2 a).2.1 ≠ (TX2 b).2.1 := by decide +kernel
theorem tyX2_ok : ∀ k, k < 3 → parseFieldDescriptor (TX2 k).2.2.1 = some (tyX2 k) := by decide +kernel
abbrev cX2_init : ByteArray := prog_4_method_1_code
def yX2_init : MethodName := ⟨RX2, "<init>", "()V"⟩
abbrev cX2_isMissing : ByteArray := prog_4_method_2_code
def yX2_isMissing : MethodName := ⟨RX2, "isMissing", "()Z"⟩
abbrev cX2_become : ByteArray := prog_4_method_3_code
def yX2_become : MethodName := ⟨RX2, "become", "(II)V"⟩
abbrev cX2_becomeLike : ByteArray := prog_4_method_4_code
def yX2_becomeLike : MethodName := ⟨RX2, "becomeLike", "(LDominoKing$Sheet;)V"⟩
abbrev cX2_write : ByteArray := prog_4_method_5_code
def yX2_write : MethodName := ⟨RX2, "write", "(II)I"⟩
abbrev cX2_isNumber : ByteArray := prog_4_method_6_code
def yX2_isNumber : MethodName := ⟨RX2, "isNumber", "(I)Z"⟩
abbrev cX2_hasPlaces : ByteArray := prog_4_method_7_code
def yX2_hasPlaces : MethodName := ⟨RX2, "hasPlaces", "(II)Z"⟩
def RX3 : String := "DominoKing$Slot"
def TX3 : u_T := fun k => match k with
  | 0 => ("DominoKing$Slot", "sheet", "LDominoKing$Sheet;", true)
  | 1 => ("DominoKing$Slot", "thing", "I", false)
  | 2 => ("DominoKing$Slot", "kind", "I", false)
  | 3 => ("DominoKing$Slot", "left", "I", false)
  | 4 => ("DominoKing$Slot", "right", "I", false)
  | _ => ("DominoKing$Slot", "number", "I", false)
def tyX3 : Nat → FieldType := fun k => match k with
  | 0 => .object "DominoKing$Sheet"
  | 1 => .int
  | 2 => .int
  | 3 => .int
  | 4 => .int
  | _ => .int
theorem nmX3 : ∀ a, a < 6 → ∀ b, b < 6 → a ≠ b → (TX3 a).2.1 ≠ (TX3 b).2.1 := by decide +kernel
theorem tyX3_ok : ∀ k, k < 6 → parseFieldDescriptor (TX3 k).2.2.1 = some (tyX3 k) := by decide +kernel
abbrev cX3_init : ByteArray := prog_5_method_1_code
def yX3_init : MethodName := ⟨RX3, "<init>", "()V"⟩
abbrev cX3_takeStone : ByteArray := prog_5_method_2_code
def yX3_takeStone : MethodName := ⟨RX3, "takeStone", "(III)V"⟩
def RX4 : String := "DominoKing$Table"
def TX4 : u_T := fun k => match k with
  | 0 => ("DominoKing$Table", "kinds", "[I", true)
  | 1 => ("DominoKing$Table", "lefts", "[I", true)
  | 2 => ("DominoKing$Table", "rights", "[I", true)
  | 3 => ("DominoKing$Table", "places", "[I", true)
  | 4 => ("DominoKing$Table", "turned", "[I", true)
  | 5 => ("DominoKing$Table", "held", "[I", true)
  | 6 => ("DominoKing$Table", "wants", "[I", true)
  | 7 => ("DominoKing$Table", "darks", "[I", true)
  | 8 => ("DominoKing$Table", "texts", "[LDominoKing$Text;", true)
  | 9 => ("DominoKing$Table", "laws", "[I", true)
  | 10 => ("DominoKing$Table", "stones", "I", false)
  | 11 => ("DominoKing$Table", "textCount", "I", false)
  | 12 => ("DominoKing$Table", "wind", "I", false)
  | 13 => ("DominoKing$Table", "day", "I", false)
  | _ => ("DominoKing$Table", "z", "I", false)
def tyX4 : Nat → FieldType := fun k => match k with
  | 0 => .array .int
  | 1 => .array .int
  | 2 => .array .int
  | 3 => .array .int
  | 4 => .array .int
  | 5 => .array .int
  | 6 => .array .int
  | 7 => .array .int
  | 8 => .array (.object "DominoKing$Text")
  | 9 => .array .int
  | 10 => .int
  | 11 => .int
  | 12 => .int
  | 13 => .int
  | _ => .int
theorem nmX4 : ∀ a, a < 15 → ∀ b, b < 15 → a ≠ b → (TX4 a).2.1 ≠ (TX4 b).2.1 := by decide +kernel
theorem tyX4_ok : ∀ k, k < 15 → parseFieldDescriptor (TX4 k).2.2.1 = some (tyX4 k) := by decide +kernel
abbrev cX4_init : ByteArray := prog_6_method_1_code
def yX4_init : MethodName := ⟨RX4, "<init>", "()V"⟩
abbrev cX4_become : ByteArray := prog_6_method_2_code
def yX4_become : MethodName := ⟨RX4, "become", "(LDominoKing$Table;)V"⟩
abbrev cX4_addStone : ByteArray := prog_6_method_3_code
def yX4_addStone : MethodName := ⟨RX4, "addStone", "(III)I"⟩
abbrev cX4_drawStone : ByteArray := prog_6_method_4_code
def yX4_drawStone : MethodName := ⟨RX4, "drawStone", "()V"⟩
abbrev cX4_draw : ByteArray := prog_6_method_5_code
def yX4_draw : MethodName := ⟨RX4, "draw", "()I"⟩
abbrev cX4_textAt : ByteArray := prog_6_method_6_code
def yX4_textAt : MethodName := ⟨RX4, "textAt", "(I)LDominoKing$Text;"⟩
abbrev cX4_law : ByteArray := prog_6_method_7_code
def yX4_law : MethodName := ⟨RX4, "law", "(I)LDominoKing$Text;"⟩
abbrev cX4_addText : ByteArray := prog_6_method_8_code
def yX4_addText : MethodName := ⟨RX4, "addText", "(LDominoKing$Text;)I"⟩
abbrev cX4_darken : ByteArray := prog_6_method_9_code
def yX4_darken : MethodName := ⟨RX4, "darken", "(I)V"⟩
abbrev cX4_darkOf : ByteArray := prog_6_method_10_code
def yX4_darkOf : MethodName := ⟨RX4, "darkOf", "(LDominoKing$Text;IIII)I"⟩
abbrev cX4_darkAt : ByteArray := prog_6_method_11_code
def yX4_darkAt : MethodName := ⟨RX4, "darkAt", "(III)I"⟩
abbrev cX4_heavy : ByteArray := prog_6_method_12_code
def yX4_heavy : MethodName := ⟨RX4, "heavy", "(I)I"⟩
abbrev cX4_spots : ByteArray := prog_6_method_13_code
def yX4_spots : MethodName := ⟨RX4, "spots", "(II)I"⟩
abbrev cX4_offAt : ByteArray := prog_6_method_14_code
def yX4_offAt : MethodName := ⟨RX4, "offAt", "(III)I"⟩
abbrev cX4_leastOff : ByteArray := prog_6_method_15_code
def yX4_leastOff : MethodName := ⟨RX4, "leastOff", "(II)I"⟩
abbrev cX4_isLaid : ByteArray := prog_6_method_16_code
def yX4_isLaid : MethodName := ⟨RX4, "isLaid", "(I)Z"⟩
abbrev cX4_moveTo : ByteArray := prog_6_method_17_code
def yX4_moveTo : MethodName := ⟨RX4, "moveTo", "(II)V"⟩
abbrev cX4_picture : ByteArray := prog_6_method_18_code
def yX4_picture : MethodName := ⟨RX4, "picture", "()I"⟩
abbrev cX4_matches : ByteArray := prog_6_method_19_code
def yX4_matches : MethodName := ⟨RX4, "matches", "()I"⟩
abbrev cX4_meet : ByteArray := prog_6_method_20_code
def yX4_meet : MethodName := ⟨RX4, "meet", "(II)Z"⟩
abbrev cX4_laidStones : ByteArray := prog_6_method_21_code
def yX4_laidStones : MethodName := ⟨RX4, "laidStones", "()I"⟩
abbrev cX4_placesHeld : ByteArray := prog_6_method_22_code
def yX4_placesHeld : MethodName := ⟨RX4, "placesHeld", "()I"⟩
abbrev cX4_passDays : ByteArray := prog_6_method_23_code
def yX4_passDays : MethodName := ⟨RX4, "passDays", "(I)V"⟩
abbrev cX4_passDay : ByteArray := prog_6_method_24_code
def yX4_passDay : MethodName := ⟨RX4, "passDay", "()V"⟩
abbrev cX4_firstEmptyIn : ByteArray := prog_6_method_25_code
def yX4_firstEmptyIn : MethodName := ⟨RX4, "firstEmptyIn", "(I)I"⟩
abbrev cX4_layBestAt : ByteArray := prog_6_method_26_code
def yX4_layBestAt : MethodName := ⟨RX4, "layBestAt", "(I)V"⟩
abbrev cX4_turnAt : ByteArray := prog_6_method_27_code
def yX4_turnAt : MethodName := ⟨RX4, "turnAt", "(I)V"⟩
abbrev cX4_gainOfChange : ByteArray := prog_6_method_28_code
def yX4_gainOfChange : MethodName := ⟨RX4, "gainOfChange", "(II)I"⟩
abbrev cX4_fallFrom : ByteArray := prog_6_method_29_code
def yX4_fallFrom : MethodName := ⟨RX4, "fallFrom", "(I)I"⟩
abbrev cX4_unlike : ByteArray := prog_6_method_30_code
def yX4_unlike : MethodName := ⟨RX4, "unlike", "(ILDominoKing$Sheet;)I"⟩
abbrev cX4_darkOfCell : ByteArray := prog_6_method_31_code
def yX4_darkOfCell : MethodName := ⟨RX4, "darkOfCell", "(I)I"⟩
def RX5 : String := "DominoKing$Tape"
def TX5 : u_T := fun k => match k with
  | 0 => ("DominoKing$Tape", "bytes", "[I", true)
  | _ => ("DominoKing$Tape", "size", "I", false)
def tyX5 : Nat → FieldType := fun k => match k with
  | 0 => .array .int
  | _ => .int
theorem nmX5 : ∀ a, a < 2 → ∀ b, b < 2 → a ≠ b → (TX5 a).2.1 ≠ (TX5 b).2.1 := by decide +kernel
theorem tyX5_ok : ∀ k, k < 2 → parseFieldDescriptor (TX5 k).2.2.1 = some (tyX5 k) := by decide +kernel
abbrev cX5_init : ByteArray := prog_7_method_1_code
def yX5_init : MethodName := ⟨RX5, "<init>", "()V"⟩
abbrev cX5_add : ByteArray := prog_7_method_2_code
def yX5_add : MethodName := ⟨RX5, "add", "(I)V"⟩
def RX6 : String := "DominoKing$Text"
def TX6 : u_T := fun k => match k with
  | 0 => ("DominoKing$Text", "key", "I", true)
  | 1 => ("DominoKing$Text", "operands", "I", true)
  | 2 => ("DominoKing$Text", "signs", "[I", true)
  | 3 => ("DominoKing$Text", "values", "[I", true)
  | _ => ("DominoKing$Text", "stack", "[I", true)
def tyX6 : Nat → FieldType := fun k => match k with
  | 0 => .int
  | 1 => .int
  | 2 => .array .int
  | 3 => .array .int
  | _ => .array .int
theorem nmX6 : ∀ a, a < 5 → ∀ b, b < 5 → a ≠ b → (TX6 a).2.1 ≠ (TX6 b).2.1 := by decide +kernel
theorem tyX6_ok : ∀ k, k < 5 → parseFieldDescriptor (TX6 k).2.2.1 = some (tyX6 k) := by decide +kernel
abbrev cX6_init : ByteArray := prog_8_method_1_code
def yX6_init : MethodName := ⟨RX6, "<init>", "(II[I[I)V"⟩
abbrev cX6_gives : ByteArray := prog_8_method_2_code
def yX6_gives : MethodName := ⟨RX6, "gives", "(III)I"⟩
abbrev cX6_named : ByteArray := prog_8_method_3_code
def yX6_named : MethodName := ⟨RX6, "named", "(IIII)I"⟩
abbrev cX6_joined : ByteArray := prog_8_method_4_code
def yX6_joined : MethodName := ⟨RX6, "joined", "(III)I"⟩
abbrev cX6_truth : ByteArray := prog_8_method_5_code
def yX6_truth : MethodName := ⟨RX6, "truth", "(Z)I"⟩
def RX7 : String := "DominoKing$Thoughts"
def TX7 : u_T := fun k => match k with
  | 0 => ("DominoKing$Thoughts", "then", "LDominoKing$Table;", true)
  | 1 => ("DominoKing$Thoughts", "ways", "[I", true)
  | _ => ("DominoKing$Thoughts", "offs", "[I", true)
def tyX7 : Nat → FieldType := fun k => match k with
  | 0 => .object "DominoKing$Table"
  | 1 => .array .int
  | _ => .array .int
theorem nmX7 : ∀ a, a < 3 → ∀ b, b < 3 → a ≠ b → (TX7 a).2.1 ≠ (TX7 b).2.1 := by decide +kernel
theorem tyX7_ok : ∀ k, k < 3 → parseFieldDescriptor (TX7 k).2.2.1 = some (tyX7 k) := by decide +kernel
abbrev cX7_init : ByteArray := prog_9_method_1_code
def yX7_init : MethodName := ⟨RX7, "<init>", "()V"⟩
abbrev cX7_behindDays : ByteArray := prog_9_method_2_code
def yX7_behindDays : MethodName := ⟨RX7, "behindDays", "(LDominoKing$Table;I)LDominoKing$Table;"⟩
abbrev cX7_daysTillLaid : ByteArray := prog_9_method_3_code
def yX7_daysTillLaid : MethodName := ⟨RX7, "daysTillLaid", "(LDominoKing$Table;)I"⟩
abbrev cX7_pictureWithout : ByteArray := prog_9_method_4_code
def yX7_pictureWithout : MethodName := ⟨RX7, "pictureWithout", "(LDominoKing$Table;II)I"⟩
abbrev cX7_rightAhead : ByteArray := prog_9_method_5_code
def yX7_rightAhead : MethodName := ⟨RX7, "rightAhead", "(LDominoKing$Table;I[II)I"⟩
abbrev cX7_bestLaying : ByteArray := prog_9_method_6_code
def yX7_bestLaying : MethodName := ⟨RX7, "bestLaying", "(LDominoKing$Table;II)I"⟩
abbrev cX7_offerStone : ByteArray := prog_9_method_7_code
def yX7_offerStone : MethodName := ⟨RX7, "offerStone", "(LDominoKing$Table;II)V"⟩
def RX8 : String := "DominoKing"
def TX8 : u_T := fun k => match k with
  | 0 => ("DominoKing", "now", "LDominoKing$Table;", true)
  | 1 => ("DominoKing", "image", "LDominoKing$Table;", true)
  | 2 => ("DominoKing", "thoughts", "LDominoKing$Thoughts;", true)
  | 3 => ("DominoKing", "tape", "LDominoKing$Tape;", true)
  | 4 => ("DominoKing", "reader", "LDominoKing$Reader;", true)
  | 5 => ("DominoKing", "sheets", "[LDominoKing$Sheet;", true)
  | 6 => ("DominoKing", "slots", "[LDominoKing$Slot;", true)
  | 7 => ("DominoKing", "waiting", "[I", true)
  | 8 => ("DominoKing", "waits", "I", false)
  | _ => ("DominoKing", "kept", "Z", false)
def tyX8 : Nat → FieldType := fun k => match k with
  | 0 => .object "DominoKing$Table"
  | 1 => .object "DominoKing$Table"
  | 2 => .object "DominoKing$Thoughts"
  | 3 => .object "DominoKing$Tape"
  | 4 => .object "DominoKing$Reader"
  | 5 => .array (.object "DominoKing$Sheet")
  | 6 => .array (.object "DominoKing$Slot")
  | 7 => .array .int
  | 8 => .int
  | _ => .boolean
theorem nmX8 : ∀ a, a < 10 → ∀ b, b < 10 → a ≠ b → (TX8 a).2.1 ≠ (TX8 b).2.1 := by decide +kernel
theorem tyX8_ok : ∀ k, k < 10 → parseFieldDescriptor (TX8 k).2.2.1 = some (tyX8 k) := by decide +kernel
abbrev cX8_init : ByteArray := prog_1_method_1_code
def yX8_init : MethodName := ⟨RX8, "<init>", "()V"⟩
abbrev cX8_stone : ByteArray := prog_1_method_2_code
def yX8_stone : MethodName := ⟨RX8, "stone", "(III)I"⟩
abbrev cX8_told : ByteArray := prog_1_method_3_code
def yX8_told : MethodName := ⟨RX8, "told", "(II)I"⟩
abbrev cX8_off : ByteArray := prog_1_method_4_code
def yX8_off : MethodName := ⟨RX8, "off", "(III)I"⟩
abbrev cX8_as : ByteArray := prog_1_method_5_code
def yX8_as : MethodName := ⟨RX8, "as", "(II)I"⟩
abbrev cX8_turns : ByteArray := prog_1_method_6_code
def yX8_turns : MethodName := ⟨RX8, "turns", "(II)I"⟩
abbrev cX8_put : ByteArray := prog_1_method_7_code
def yX8_put : MethodName := ⟨RX8, "put", "(III)I"⟩
abbrev cX8_box : ByteArray := prog_1_method_8_code
def yX8_box : MethodName := ⟨RX8, "box", "(I)I"⟩
abbrev cX8_want : ByteArray := prog_1_method_9_code
def yX8_want : MethodName := ⟨RX8, "want", "(II)I"⟩
abbrev cX8_wind : ByteArray := prog_1_method_10_code
def yX8_wind : MethodName := ⟨RX8, "wind", "(I)I"⟩
abbrev cX8_deal : ByteArray := prog_1_method_11_code
def yX8_deal : MethodName := ⟨RX8, "deal", "(I)I"⟩
abbrev cX8_seed : ByteArray := prog_1_method_12_code
def yX8_seed : MethodName := ⟨RX8, "seed", "(I)I"⟩
abbrev cX8_days : ByteArray := prog_1_method_13_code
def yX8_days : MethodName := ⟨RX8, "days", "(I)I"⟩
abbrev cX8_king : ByteArray := prog_1_method_14_code
def yX8_king : MethodName := ⟨RX8, "king", "(I)I"⟩
abbrev cX8_at : ByteArray := prog_1_method_15_code
def yX8_at : MethodName := ⟨RX8, "at", "(I)I"⟩
abbrev cX8_best : ByteArray := prog_1_method_16_code
def yX8_best : MethodName := ⟨RX8, "best", "(II)I"⟩
abbrev cX8_bestFor : ByteArray := prog_1_method_17_code
def yX8_bestFor : MethodName := ⟨RX8, "bestFor", "(II)I"⟩
abbrev cX8_swap : ByteArray := prog_1_method_18_code
def yX8_swap : MethodName := ⟨RX8, "swap", "()I"⟩
abbrev cX8_knocked : ByteArray := prog_1_method_19_code
def yX8_knocked : MethodName := ⟨RX8, "knocked", "(I)I"⟩
abbrev cX8_push : ByteArray := prog_1_method_20_code
def yX8_push : MethodName := ⟨RX8, "push", "(I)I"⟩
abbrev cX8_behind : ByteArray := prog_1_method_21_code
def yX8_behind : MethodName := ⟨RX8, "behind", "(II)I"⟩
abbrev cX8_laid : ByteArray := prog_1_method_22_code
def yX8_laid : MethodName := ⟨RX8, "laid", "()I"⟩
abbrev cX8_lost : ByteArray := prog_1_method_23_code
def yX8_lost : MethodName := ⟨RX8, "lost", "(II)I"⟩
abbrev cX8_seen : ByteArray := prog_1_method_24_code
def yX8_seen : MethodName := ⟨RX8, "seen", "(II)I"⟩
abbrev cX8_fee : ByteArray := prog_1_method_25_code
def yX8_fee : MethodName := ⟨RX8, "fee", "()I"⟩
abbrev cX8_fine : ByteArray := prog_1_method_26_code
def yX8_fine : MethodName := ⟨RX8, "fine", "(I)I"⟩
abbrev cX8_feed : ByteArray := prog_1_method_27_code
def yX8_feed : MethodName := ⟨RX8, "feed", "(III)I"⟩
abbrev cX8_trim : ByteArray := prog_1_method_28_code
def yX8_trim : MethodName := ⟨RX8, "trim", "(I)I"⟩
abbrev cX8_text : ByteArray := prog_1_method_29_code
def yX8_text : MethodName := ⟨RX8, "text", "()I"⟩
abbrev cX8_textTold : ByteArray := prog_1_method_30_code
def yX8_textTold : MethodName := ⟨RX8, "textTold", "(II)I"⟩
abbrev cX8_why : ByteArray := prog_1_method_31_code
def yX8_why : MethodName := ⟨RX8, "why", "(I)I"⟩
abbrev cX8_sheet : ByteArray := prog_1_method_32_code
def yX8_sheet : MethodName := ⟨RX8, "sheet", "(III)I"⟩
abbrev cX8_mark : ByteArray := prog_1_method_33_code
def yX8_mark : MethodName := ⟨RX8, "mark", "(III)I"⟩
abbrev cX8_pour : ByteArray := prog_1_method_34_code
def yX8_pour : MethodName := ⟨RX8, "pour", "(I)I"⟩
abbrev cX8_reads : ByteArray := prog_1_method_35_code
def yX8_reads : MethodName := ⟨RX8, "reads", "(I)I"⟩
abbrev cX8_copy : ByteArray := prog_1_method_36_code
def yX8_copy : MethodName := ⟨RX8, "copy", "(IIIII)I"⟩
abbrev cX8_lay : ByteArray := prog_1_method_37_code
def yX8_lay : MethodName := ⟨RX8, "lay", "(III)I"⟩
abbrev cX8_ask : ByteArray := prog_1_method_38_code
def yX8_ask : MethodName := ⟨RX8, "ask", "(II)I"⟩
abbrev cX8_item : ByteArray := prog_1_method_39_code
def yX8_item : MethodName := ⟨RX8, "item", "(II)I"⟩
abbrev cX8_rest : ByteArray := prog_1_method_40_code
def yX8_rest : MethodName := ⟨RX8, "rest", "(II)I"⟩
abbrev cX8_tell : ByteArray := prog_1_method_41_code
def yX8_tell : MethodName := ⟨RX8, "tell", "(I)I"⟩
abbrev cX8_check : ByteArray := prog_1_method_42_code
def yX8_check : MethodName := ⟨RX8, "check", "(I)I"⟩
abbrev cX8_keep : ByteArray := prog_1_method_43_code
def yX8_keep : MethodName := ⟨RX8, "keep", "()I"⟩
abbrev cX8_back : ByteArray := prog_1_method_44_code
def yX8_back : MethodName := ⟨RX8, "back", "()I"⟩
abbrev cX8_count : ByteArray := prog_1_method_45_code
def yX8_count : MethodName := ⟨RX8, "count", "(I)I"⟩
abbrev cX8_isStone : ByteArray := prog_1_method_46_code
def yX8_isStone : MethodName := ⟨RX8, "isStone", "(I)Z"⟩
abbrev cX8_isPlace : ByteArray := prog_1_method_47_code
def yX8_isPlace : MethodName := ⟨RX8, "isPlace", "(I)Z"⟩
abbrev cX8_isSheet : ByteArray := prog_1_method_48_code
def yX8_isSheet : MethodName := ⟨RX8, "isSheet", "(I)Z"⟩
abbrev cX8_isSlot : ByteArray := prog_1_method_49_code
def yX8_isSlot : MethodName := ⟨RX8, "isSlot", "(I)Z"⟩
abbrev cX8_within : ByteArray := prog_1_method_50_code
def yX8_within : MethodName := ⟨RX8, "within", "(III)Z"⟩
abbrev cX8_clamp : ByteArray := prog_1_method_51_code
def yX8_clamp : MethodName := ⟨RX8, "clamp", "(III)I"⟩
abbrev cX8_stoneOrNone : ByteArray := prog_1_method_52_code
def yX8_stoneOrNone : MethodName := ⟨RX8, "stoneOrNone", "(I)I"⟩
abbrev cX8_lookFor : ByteArray := prog_1_method_53_code
def yX8_lookFor : MethodName := ⟨RX8, "lookFor", "(II)I"⟩
def RX9 : String := "DominoKingModel"
def TX9 : u_T := fun k => match k with
  | 0 => ("DominoKingModel", "now", "[I", true)
  | 1 => ("DominoKingModel", "image", "[I", true)
  | 2 => ("DominoKingModel", "aside", "[I", true)
  | 3 => ("DominoKingModel", "hasImage", "Z", false)
  | 4 => ("DominoKingModel", "away", "I", false)
  | 5 => ("DominoKingModel", "leastOf", "[I", true)
  | 6 => ("DominoKingModel", "cost", "[I", true)
  | 7 => ("DominoKingModel", "before", "[I", true)
  | 8 => ("DominoKingModel", "tape", "[I", true)
  | 9 => ("DominoKingModel", "taped", "I", false)
  | 10 => ("DominoKingModel", "next", "I", false)
  | 11 => ("DominoKingModel", "from", "I", false)
  | 12 => ("DominoKingModel", "token", "I", false)
  | 13 => ("DominoKingModel", "value", "I", false)
  | 14 => ("DominoKingModel", "ended", "I", false)
  | 15 => ("DominoKingModel", "key", "I", false)
  | 16 => ("DominoKingModel", "keys", "[C", true)
  | 17 => ("DominoKingModel", "keyAt", "[I", true)
  | 18 => ("DominoKingModel", "code", "[I", true)
  | 19 => ("DominoKingModel", "codes", "I", false)
  | 20 => ("DominoKingModel", "atoms", "I", false)
  | 21 => ("DominoKingModel", "waits", "[I", true)
  | 22 => ("DominoKingModel", "held", "I", false)
  | 23 => ("DominoKingModel", "tested", "[Z", true)
  | 24 => ("DominoKingModel", "stack", "[I", true)
  | 25 => ("DominoKingModel", "facts", "[I", true)
  | 26 => ("DominoKingModel", "sorts", "[I", true)
  | 27 => ("DominoKingModel", "sizes", "[I", true)
  | 28 => ("DominoKingModel", "cells", "[I", true)
  | 29 => ("DominoKingModel", "holds", "[I", true)
  | 30 => ("DominoKingModel", "holdsA", "[I", true)
  | 31 => ("DominoKingModel", "holdsB", "[I", true)
  | 32 => ("DominoKingModel", "heldCells", "[I", true)
  | 33 => ("DominoKingModel", "moved", "[I", true)
  | 34 => ("DominoKingModel", "tells", "[I", true)
  | _ => ("DominoKingModel", "waiting", "I", false)
def tyX9 : Nat → FieldType := fun k => match k with
  | 0 => .array .int
  | 1 => .array .int
  | 2 => .array .int
  | 3 => .boolean
  | 4 => .int
  | 5 => .array .int
  | 6 => .array .int
  | 7 => .array .int
  | 8 => .array .int
  | 9 => .int
  | 10 => .int
  | 11 => .int
  | 12 => .int
  | 13 => .int
  | 14 => .int
  | 15 => .int
  | 16 => .array .char
  | 17 => .array .int
  | 18 => .array .int
  | 19 => .int
  | 20 => .int
  | 21 => .array .int
  | 22 => .int
  | 23 => .array .boolean
  | 24 => .array .int
  | 25 => .array .int
  | 26 => .array .int
  | 27 => .array .int
  | 28 => .array .int
  | 29 => .array .int
  | 30 => .array .int
  | 31 => .array .int
  | 32 => .array .int
  | 33 => .array .int
  | 34 => .array .int
  | _ => .int
theorem nmX9 : ∀ a, a < 36 → ∀ b, b < 36 → a ≠ b → (TX9 a).2.1 ≠ (TX9 b).2.1 := by decide +kernel
theorem tyX9_ok : ∀ k, k < 36 → parseFieldDescriptor (TX9 k).2.2.1 = some (tyX9 k) := by decide +kernel
abbrev cX9_init : ByteArray := prog_11_method_1_code
def yX9_init : MethodName := ⟨RX9, "<init>", "()V"⟩
abbrev cX9_in : ByteArray := prog_11_method_2_code
def yX9_in : MethodName := ⟨RX9, "in", "(III)Z"⟩
abbrev cX9_within : ByteArray := prog_11_method_3_code
def yX9_within : MethodName := ⟨RX9, "within", "(III)I"⟩
abbrev cX9_apart : ByteArray := prog_11_method_4_code
def yX9_apart : MethodName := ⟨RX9, "apart", "(II)I"⟩
abbrev cX9_copyAll : ByteArray := prog_11_method_5_code
def yX9_copyAll : MethodName := ⟨RX9, "copyAll", "([I[I)V"⟩
abbrev cX9_told0 : ByteArray := prog_11_method_6_code
def yX9_told0 : MethodName := ⟨RX9, "told0", "(I)I"⟩
abbrev cX9_isStone : ByteArray := prog_11_method_7_code
def yX9_isStone : MethodName := ⟨RX9, "isStone", "(I)Z"⟩
abbrev cX9_isPlace : ByteArray := prog_11_method_8_code
def yX9_isPlace : MethodName := ⟨RX9, "isPlace", "(I)Z"⟩
abbrev cX9_of : ByteArray := prog_11_method_9_code
def yX9_of : MethodName := ⟨RX9, "of", "(II)I"⟩
abbrev cX9_becomes : ByteArray := prog_11_method_10_code
def yX9_becomes : MethodName := ⟨RX9, "becomes", "(II)I"⟩
abbrev cX9_comes : ByteArray := prog_11_method_11_code
def yX9_comes : MethodName := ⟨RX9, "comes", "(III)I"⟩
abbrev cX9_stone : ByteArray := prog_11_method_12_code
def yX9_stone : MethodName := ⟨RX9, "stone", "(III)I"⟩
abbrev cX9_heavyOf : ByteArray := prog_11_method_13_code
def yX9_heavyOf : MethodName := ⟨RX9, "heavyOf", "(I)I"⟩
abbrev cX9_worthOf : ByteArray := prog_11_method_14_code
def yX9_worthOf : MethodName := ⟨RX9, "worthOf", "(I)I"⟩
abbrev cX9_told : ByteArray := prog_11_method_15_code
def yX9_told : MethodName := ⟨RX9, "told", "(II)I"⟩
abbrev cX9_spotsOf : ByteArray := prog_11_method_16_code
def yX9_spotsOf : MethodName := ⟨RX9, "spotsOf", "(III)I"⟩
abbrev cX9_darkOf : ByteArray := prog_11_method_17_code
def yX9_darkOf : MethodName := ⟨RX9, "darkOf", "(III)I"⟩
abbrev cX9_offOf : ByteArray := prog_11_method_18_code
def yX9_offOf : MethodName := ⟨RX9, "offOf", "(III)I"⟩
abbrev cX9_off : ByteArray := prog_11_method_19_code
def yX9_off : MethodName := ⟨RX9, "off", "(III)I"⟩
abbrev cX9_isUnder : ByteArray := prog_11_method_20_code
def yX9_isUnder : MethodName := ⟨RX9, "isUnder", "(II)Z"⟩
abbrev cX9_as : ByteArray := prog_11_method_21_code
def yX9_as : MethodName := ⟨RX9, "as", "(II)I"⟩
abbrev cX9_turns : ByteArray := prog_11_method_22_code
def yX9_turns : MethodName := ⟨RX9, "turns", "(II)I"⟩
abbrev cX9_holder : ByteArray := prog_11_method_23_code
def yX9_holder : MethodName := ⟨RX9, "holder", "(I)I"⟩
abbrev cX9_put : ByteArray := prog_11_method_24_code
def yX9_put : MethodName := ⟨RX9, "put", "(III)I"⟩
abbrev cX9_box : ByteArray := prog_11_method_25_code
def yX9_box : MethodName := ⟨RX9, "box", "(I)I"⟩
abbrev cX9_want : ByteArray := prog_11_method_26_code
def yX9_want : MethodName := ⟨RX9, "want", "(II)I"⟩
abbrev cX9_wind : ByteArray := prog_11_method_27_code
def yX9_wind : MethodName := ⟨RX9, "wind", "(I)I"⟩
abbrev cX9_draw : ByteArray := prog_11_method_28_code
def yX9_draw : MethodName := ⟨RX9, "draw", "()I"⟩
abbrev cX9_deal : ByteArray := prog_11_method_29_code
def yX9_deal : MethodName := ⟨RX9, "deal", "(I)I"⟩
abbrev cX9_seed : ByteArray := prog_11_method_30_code
def yX9_seed : MethodName := ⟨RX9, "seed", "(I)I"⟩
abbrev cX9_manyLaid : ByteArray := prog_11_method_31_code
def yX9_manyLaid : MethodName := ⟨RX9, "manyLaid", "()I"⟩
abbrev cX9_laysIn : ByteArray := prog_11_method_32_code
def yX9_laysIn : MethodName := ⟨RX9, "laysIn", "(I)V"⟩
abbrev cX9_day : ByteArray := prog_11_method_33_code
def yX9_day : MethodName := ⟨RX9, "day", "()V"⟩
abbrev cX9_goesOn : ByteArray := prog_11_method_34_code
def yX9_goesOn : MethodName := ⟨RX9, "goesOn", "(I)V"⟩
abbrev cX9_days : ByteArray := prog_11_method_35_code
def yX9_days : MethodName := ⟨RX9, "days", "(I)I"⟩
abbrev cX9_picture : ByteArray := prog_11_method_36_code
def yX9_picture : MethodName := ⟨RX9, "picture", "()I"⟩
abbrev cX9_matches : ByteArray := prog_11_method_37_code
def yX9_matches : MethodName := ⟨RX9, "matches", "()I"⟩
abbrev cX9_king : ByteArray := prog_11_method_38_code
def yX9_king : MethodName := ⟨RX9, "king", "(I)I"⟩
abbrev cX9_at : ByteArray := prog_11_method_39_code
def yX9_at : MethodName := ⟨RX9, "at", "(I)I"⟩
abbrev cX9_leastAt : ByteArray := prog_11_method_40_code
def yX9_leastAt : MethodName := ⟨RX9, "leastAt", "(II)I"⟩
abbrev cX9_bits : ByteArray := prog_11_method_41_code
def yX9_bits : MethodName := ⟨RX9, "bits", "(I)I"⟩
abbrev cX9_layable : ByteArray := prog_11_method_42_code
def yX9_layable : MethodName := ⟨RX9, "layable", "(I)I"⟩
abbrev cX9_best : ByteArray := prog_11_method_43_code
def yX9_best : MethodName := ⟨RX9, "best", "(II)I"⟩
abbrev cX9_bestFor : ByteArray := prog_11_method_44_code
def yX9_bestFor : MethodName := ⟨RX9, "bestFor", "(II)I"⟩
abbrev cX9_change : ByteArray := prog_11_method_45_code
def yX9_change : MethodName := ⟨RX9, "change", "(II)V"⟩
abbrev cX9_swap : ByteArray := prog_11_method_46_code
def yX9_swap : MethodName := ⟨RX9, "swap", "()I"⟩
abbrev cX9_falls : ByteArray := prog_11_method_47_code
def yX9_falls : MethodName := ⟨RX9, "falls", "(I)I"⟩
abbrev cX9_knocked : ByteArray := prog_11_method_48_code
def yX9_knocked : MethodName := ⟨RX9, "knocked", "(I)I"⟩
abbrev cX9_push : ByteArray := prog_11_method_49_code
def yX9_push : MethodName := ⟨RX9, "push", "(I)I"⟩
abbrev cX9_thinks : ByteArray := prog_11_method_50_code
def yX9_thinks : MethodName := ⟨RX9, "thinks", "()V"⟩
abbrev cX9_putsBack : ByteArray := prog_11_method_51_code
def yX9_putsBack : MethodName := ⟨RX9, "putsBack", "()V"⟩
abbrev cX9_behind : ByteArray := prog_11_method_52_code
def yX9_behind : MethodName := ⟨RX9, "behind", "(II)I"⟩
abbrev cX9_isLaid : ByteArray := prog_11_method_53_code
def yX9_isLaid : MethodName := ⟨RX9, "isLaid", "()Z"⟩
abbrev cX9_laid : ByteArray := prog_11_method_54_code
def yX9_laid : MethodName := ⟨RX9, "laid", "()I"⟩
abbrev cX9_lost : ByteArray := prog_11_method_55_code
def yX9_lost : MethodName := ⟨RX9, "lost", "(II)I"⟩
abbrev cX9_darkAt : ByteArray := prog_11_method_56_code
def yX9_darkAt : MethodName := ⟨RX9, "darkAt", "(I)I"⟩
abbrev cX9_offBy : ByteArray := prog_11_method_57_code
def yX9_offBy : MethodName := ⟨RX9, "offBy", "(II)J"⟩
abbrev cX9_seen : ByteArray := prog_11_method_58_code
def yX9_seen : MethodName := ⟨RX9, "seen", "(II)I"⟩
abbrev cX9_fee : ByteArray := prog_11_method_59_code
def yX9_fee : MethodName := ⟨RX9, "fee", "()I"⟩
abbrev cX9_fine : ByteArray := prog_11_method_60_code
def yX9_fine : MethodName := ⟨RX9, "fine", "(I)I"⟩
abbrev cX9_feed : ByteArray := prog_11_method_61_code
def yX9_feed : MethodName := ⟨RX9, "feed", "(III)I"⟩
abbrev cX9_trim : ByteArray := prog_11_method_62_code
def yX9_trim : MethodName := ⟨RX9, "trim", "(I)I"⟩
abbrev cX9_isLetter : ByteArray := prog_11_method_63_code
def yX9_isLetter : MethodName := ⟨RX9, "isLetter", "(I)Z"⟩
abbrev cX9_isFigure : ByteArray := prog_11_method_64_code
def yX9_isFigure : MethodName := ⟨RX9, "isFigure", "(I)Z"⟩
abbrev cX9_go : ByteArray := prog_11_method_65_code
def yX9_go : MethodName := ⟨RX9, "go", "()V"⟩
abbrev cX9_takesKey : ByteArray := prog_11_method_66_code
def yX9_takesKey : MethodName := ⟨RX9, "takesKey", "()Z"⟩
abbrev cX9_nameOf : ByteArray := prog_11_method_67_code
def yX9_nameOf : MethodName := ⟨RX9, "nameOf", "(I)I"⟩
abbrev cX9_rank : ByteArray := prog_11_method_68_code
def yX9_rank : MethodName := ⟨RX9, "rank", "(I)I"⟩
abbrev cX9_settle : ByteArray := prog_11_method_69_code
def yX9_settle : MethodName := ⟨RX9, "settle", "(I)V"⟩
abbrev cX9_signHere : ByteArray := prog_11_method_70_code
def yX9_signHere : MethodName := ⟨RX9, "signHere", "()I"⟩
abbrev cX9_takesPart : ByteArray := prog_11_method_71_code
def yX9_takesPart : MethodName := ⟨RX9, "takesPart", "()Z"⟩
abbrev cX9_takesE : ByteArray := prog_11_method_72_code
def yX9_takesE : MethodName := ⟨RX9, "takesE", "()Z"⟩
abbrev cX9_notsOpen : ByteArray := prog_11_method_73_code
def yX9_notsOpen : MethodName := ⟨RX9, "notsOpen", "()I"⟩
abbrev cX9_text : ByteArray := prog_11_method_74_code
def yX9_text : MethodName := ⟨RX9, "text", "()I"⟩
abbrev cX9_textTold : ByteArray := prog_11_method_75_code
def yX9_textTold : MethodName := ⟨RX9, "textTold", "(II)I"⟩
abbrev cX9_counts : ByteArray := prog_11_method_76_code
def yX9_counts : MethodName := ⟨RX9, "counts", "(I)I"⟩
abbrev cX9_why : ByteArray := prog_11_method_77_code
def yX9_why : MethodName := ⟨RX9, "why", "(I)I"⟩
abbrev cX9_two : ByteArray := prog_11_method_78_code
def yX9_two : MethodName := ⟨RX9, "two", "(III)I"⟩
abbrev cX9_worksOut : ByteArray := prog_11_method_79_code
def yX9_worksOut : MethodName := ⟨RX9, "worksOut", "(I)I"⟩
abbrev cX9_isSheet : ByteArray := prog_11_method_80_code
def yX9_isSheet : MethodName := ⟨RX9, "isSheet", "(I)Z"⟩
abbrev cX9_isSlot : ByteArray := prog_11_method_81_code
def yX9_isSlot : MethodName := ⟨RX9, "isSlot", "(I)Z"⟩
abbrev cX9_sheet : ByteArray := prog_11_method_82_code
def yX9_sheet : MethodName := ⟨RX9, "sheet", "(III)I"⟩
abbrev cX9_mark : ByteArray := prog_11_method_83_code
def yX9_mark : MethodName := ⟨RX9, "mark", "(III)I"⟩
abbrev cX9_pour : ByteArray := prog_11_method_84_code
def yX9_pour : MethodName := ⟨RX9, "pour", "(I)I"⟩
abbrev cX9_reads : ByteArray := prog_11_method_85_code
def yX9_reads : MethodName := ⟨RX9, "reads", "(I)I"⟩
abbrev cX9_copy : ByteArray := prog_11_method_86_code
def yX9_copy : MethodName := ⟨RX9, "copy", "(IIIII)I"⟩
abbrev cX9_lay : ByteArray := prog_11_method_87_code
def yX9_lay : MethodName := ⟨RX9, "lay", "(III)I"⟩
abbrev cX9_ask : ByteArray := prog_11_method_88_code
def yX9_ask : MethodName := ⟨RX9, "ask", "(II)I"⟩
abbrev cX9_item : ByteArray := prog_11_method_89_code
def yX9_item : MethodName := ⟨RX9, "item", "(II)I"⟩
abbrev cX9_rest : ByteArray := prog_11_method_90_code
def yX9_rest : MethodName := ⟨RX9, "rest", "(II)I"⟩
abbrev cX9_tell : ByteArray := prog_11_method_91_code
def yX9_tell : MethodName := ⟨RX9, "tell", "(I)I"⟩
abbrev cX9_check : ByteArray := prog_11_method_92_code
def yX9_check : MethodName := ⟨RX9, "check", "(I)I"⟩
abbrev cX9_keep : ByteArray := prog_11_method_93_code
def yX9_keep : MethodName := ⟨RX9, "keep", "()I"⟩
abbrev cX9_back : ByteArray := prog_11_method_94_code
def yX9_back : MethodName := ⟨RX9, "back", "()I"⟩
abbrev cX9_count : ByteArray := prog_11_method_95_code
def yX9_count : MethodName := ⟨RX9, "count", "(I)I"⟩
def RJ11 : String := "java/lang/Character"
abbrev cJ11_isValidCodePoint_9a6ad : ByteArray := prog_12_method_11_code
def yJ11_isValidCodePoint_9a6ad : MethodName := ⟨RJ11, "isValidCodePoint", "(I)Z"⟩
abbrev cJ11_highSurrogate_5068e : ByteArray := prog_12_method_28_code
def yJ11_highSurrogate_5068e : MethodName := ⟨RJ11, "highSurrogate", "(I)C"⟩
abbrev cJ11_lowSurrogate_5068e : ByteArray := prog_12_method_29_code
def yJ11_lowSurrogate_5068e : MethodName := ⟨RJ11, "lowSurrogate", "(I)C"⟩
def RJ6 : String := "java/lang/Integer"
abbrev cJ6_bitCount_0f7a4 : ByteArray := prog_14_method_49_code
def yJ6_bitCount_0f7a4 : MethodName := ⟨RJ6, "bitCount", "(I)I"⟩
def RJ9 : String := "java/lang/Math"
abbrev cJ9_abs_0f7a4 : ByteArray := prog_15_method_59_code
def yJ9_abs_0f7a4 : MethodName := ⟨RJ9, "abs", "(I)I"⟩
abbrev cJ9_max_7cf53 : ByteArray := prog_15_method_65_code
def yJ9_max_7cf53 : MethodName := ⟨RJ9, "max", "(II)I"⟩
abbrev cJ9_min_7cf53 : ByteArray := prog_15_method_69_code
def yJ9_min_7cf53 : MethodName := ⟨RJ9, "min", "(II)I"⟩
def RJ0 : String := "java/lang/String"
abbrev cJ0_length_8abf5 : ByteArray := prog_16_method_54_code
def yJ0_length_8abf5 : MethodName := ⟨RJ0, "length", "()I"⟩
abbrev cJ0_charAt_5068e : ByteArray := prog_16_method_56_code
def yJ0_charAt_5068e : MethodName := ⟨RJ0, "charAt", "(I)C"⟩
abbrev cJ0_indexOf_0f7a4 : ByteArray := prog_16_method_79_code
def yJ0_indexOf_0f7a4 : MethodName := ⟨RJ0, "indexOf", "(I)I"⟩
abbrev cJ0_indexOf_7cf53 : ByteArray := prog_16_method_80_code
def yJ0_indexOf_7cf53 : MethodName := ⟨RJ0, "indexOf", "(II)I"⟩
abbrev cJ0_coder_7d493 : ByteArray := prog_16_method_152_code
def yJ0_coder_7d493 : MethodName := ⟨RJ0, "coder", "()B"⟩
abbrev cJ0_isLatin1_aae02 : ByteArray := prog_16_method_154_code
def yJ0_isLatin1_aae02 : MethodName := ⟨RJ0, "isLatin1", "()Z"⟩
abbrev cJ0_checkIndex_df160 : ByteArray := prog_16_method_155_code
def yJ0_checkIndex_df160 : MethodName := ⟨RJ0, "checkIndex", "(II)V"⟩
abbrev cJ0_checkBoundsBeginEnd_23922 : ByteArray := prog_16_method_158_code
def yJ0_checkBoundsBeginEnd_23922 : MethodName := ⟨RJ0, "checkBoundsBeginEnd", "(III)V"⟩
def RJ1 : String := "java/lang/StringLatin1"
abbrev cJ1_charAt_3b067 : ByteArray := prog_17_method_2_code
def yJ1_charAt_3b067 : MethodName := ⟨RJ1, "charAt", "([BI)C"⟩
abbrev cJ1_canEncode_9a6ad : ByteArray := prog_17_method_4_code
def yJ1_canEncode_9a6ad : MethodName := ⟨RJ1, "canEncode", "(I)Z"⟩
abbrev cJ1_indexOf_4cfef : ByteArray := prog_17_method_22_code
def yJ1_indexOf_4cfef : MethodName := ⟨RJ1, "indexOf", "([BIII)I"⟩
abbrev cJ1_indexOfChar_4cfef : ByteArray := prog_17_method_23_code
def yJ1_indexOfChar_4cfef : MethodName := ⟨RJ1, "indexOfChar", "([BIII)I"⟩
def RJ2 : String := "java/lang/StringUTF16"
abbrev cJ2_getChar_3b067 : ByteArray := prog_18_method_5_code
def yJ2_getChar_3b067 : MethodName := ⟨RJ2, "getChar", "([BI)C"⟩
abbrev cJ2_length_9d52b : ByteArray := prog_18_method_6_code
def yJ2_length_9d52b : MethodName := ⟨RJ2, "length", "([B)I"⟩
abbrev cJ2_indexOf_4cfef : ByteArray := prog_18_method_40_code
def yJ2_indexOf_4cfef : MethodName := ⟨RJ2, "indexOf", "([BIII)I"⟩
abbrev cJ2_indexOfChar_4cfef : ByteArray := prog_18_method_47_code
def yJ2_indexOfChar_4cfef : MethodName := ⟨RJ2, "indexOfChar", "([BIII)I"⟩
abbrev cJ2_indexOfCharUnsafe_4cfef : ByteArray := prog_18_method_48_code
def yJ2_indexOfCharUnsafe_4cfef : MethodName := ⟨RJ2, "indexOfCharUnsafe", "([BIII)I"⟩
abbrev cJ2_indexOfSupplementary_4cfef : ByteArray := prog_18_method_49_code
def yJ2_indexOfSupplementary_4cfef : MethodName := ⟨RJ2, "indexOfSupplementary", "([BIII)I"⟩
abbrev cJ2_charAt_3b067 : ByteArray := prog_18_method_83_code
def yJ2_charAt_3b067 : MethodName := ⟨RJ2, "charAt", "([BI)C"⟩
abbrev cJ2_checkIndex_2214a : ByteArray := prog_18_method_91_code
def yJ2_checkIndex_2214a : MethodName := ⟨RJ2, "checkIndex", "(I[B)V"⟩
abbrev cJ2_checkBoundsBeginEnd_d044e : ByteArray := prog_18_method_93_code
def yJ2_checkBoundsBeginEnd_d044e : MethodName := ⟨RJ2, "checkBoundsBeginEnd", "(II[B)V"⟩
def RJ7 : String := "java/util/Arrays"
abbrev cJ7_fill_53178 : ByteArray := prog_20_method_103_code
def yJ7_fill_53178 : MethodName := ⟨RJ7, "fill", "([II)V"⟩
abbrev cJ7_copyOf_59c91 : ByteArray := prog_20_method_123_code
def yJ7_copyOf_59c91 : MethodName := ⟨RJ7, "copyOf", "([II)[I"⟩
def RJ3 : String := "jdk/internal/util/Preconditions"
abbrev cJ3_checkIndex_8e157 : ByteArray := prog_21_method_11_code
def yJ3_checkIndex_8e157 : MethodName := ⟨RJ3, "checkIndex", "(IILjava/util/function/BiFunction;)I"⟩
abbrev cJ3_checkFromToIndex_8c36e : ByteArray := prog_21_method_12_code
def yJ3_checkFromToIndex_8c36e : MethodName := ⟨RJ3, "checkFromToIndex", "(IIILjava/util/function/BiFunction;)I"⟩
def RL : String := "DominoKingLaw"
abbrev cL_law : ByteArray := code
def yL_law : MethodName := ⟨RL, "law", "([I)Z"⟩
abbrev vwCl : List vw_C := [(RX1, TX1, 11), (RX2, TX2, 3), (RX3, TX3, 6), (RX4, TX4, 15), (RX5, TX5, 2), (RX6, TX6, 5), (RX7, TX7, 3), (RX8, TX8, 10), (RX9, TX9, 36)]
end
section
/-! ===== THE ENGINE: a small machine over a world of cells (a list), its code as functions; what it runs, the JVM runs ===== -/
abbrev ab_C : Type := (Nat × List Value) ⊕ ((Nat × List Int32) ⊕ (Nat × List (Option Nat)))
abbrev ab_W : Type := List ab_C
abbrev ab_L : Type := List (Option Value)
abbrev ab_R : Type := (Nat × ab_L × List Value × ab_W) ⊕ (Option Value × ab_W)
abbrev ab_K : Type := ab_L → List Value → ab_W → Option ab_R
abbrev ab_F : Type := Nat → List Value → ab_W → Option (Option Value × ab_W)
/-- class numbers and slots; array classes by their tag; the base address; addresses of what is outside -/
abbrev ab_G : Type := (va_G × (Nat → ClassId)) × (Nat × (Nat → Nat))
def ab_ad (G : ab_G) (k : Nat) : Nat := if k < 1000000 then G.2.1 + k else G.2.2 (k - 1000000)
def ab_cv (G : ab_G) (v : Value) : Value := match v with
  | .ref k => .ref (ab_ad G k)
  | .int x => .int x
  | .long x => .long x
  | .float x => .float x
  | .double x => .double x
  | .null => .null
  | .retAddr x => .retAddr x
theorem ab_cv_cat (G : ab_G) (v : Value) : (ab_cv G v).category = v.category := by cases v <;> rfl
def ab_e (G : ab_G) (c : ab_C) : va_E := match c with
  | .inl (ci, fs) => .inr (ci, fs.map (ab_cv G))
  | .inr (.inl (t, xs)) => .inl (G.1.2 t, xs.length, .inl (fun j => xs.getD j 0))
  | .inr (.inr (t, rs)) => .inl (G.1.2 t, rs.length, .inr (.inr (.inr (.inr (fun j => (rs.getD j none).map (ab_ad G))))))
def ab_ws (G : ab_G) (w : ab_W) : va_W := w.zipIdx.map (fun q => (G.2.1 + q.2, ab_e G q.1))
def ab_sz (c : ab_C) : Nat := match c with
  | .inl (_, fs) => fs.length
  | .inr (.inl (_, xs)) => xs.length
  | .inr (.inr (_, rs)) => rs.length
def ab_tot (w : ab_W) : Nat := (w.map ab_sz).sum
theorem ab_ws_get (G : ab_G) (w : ab_W) (k : Nat) : (ab_ws G w)[k]? = (w[k]?).map (fun c => (G.2.1 + k, ab_e G c)) := by
  unfold ab_ws
  rw [List.getElem?_map, List.getElem?_zipIdx]
  cases w[k]? with
  | none => rfl
  | some c => simp
theorem ab_ws_at {G : ab_G} {w : ab_W} {k : Nat} {c : ab_C} (h : w[k]? = some c) : (ab_ws G w)[k]? = some (G.2.1 + k, ab_e G c) := by
  rw [ab_ws_get, h]; rfl
theorem ab_ws_set (G : ab_G) (w : ab_W) (k : Nat) (c : ab_C) : ab_ws G (w.set k c) = (ab_ws G w).set k (G.2.1 + k, ab_e G c) := by
  apply List.ext_getElem?
  intro j
  rw [ab_ws_get, List.getElem?_set, List.getElem?_set, ab_ws_get]
  by_cases hj : k = j
  · subst hj
    by_cases hl : k < w.length
    · have : k < (ab_ws G w).length := by unfold ab_ws; simpa using hl
      simp [hl, this]
    · have : ¬ k < (ab_ws G w).length := by unfold ab_ws; simpa using hl
      simp [hl, this]
  · simp [hj]
theorem ab_ws_app (G : ab_G) (w : ab_W) (c : ab_C) : ab_ws G (w ++ [c]) = ab_ws G w ++ [(G.2.1 + w.length, ab_e G c)] := by
  unfold ab_ws
  rw [List.zipIdx_append]
  simp
theorem ab_D (G : ab_G) (w : ab_W) : va_D (fun q => G.2.1 ≤ q) (ab_ws G w) := by
  refine ⟨fun i j p q hi hj hpq => ?_, fun k q hk => ?_⟩
  · rw [ab_ws_get] at hi hj
    cases hwi : w[i]? with
    | none => rw [hwi] at hi; cases hi
    | some a =>
      cases hwj : w[j]? with
      | none => rw [hwj] at hj; cases hj
      | some b =>
        rw [hwi] at hi; rw [hwj] at hj
        cases hi; cases hj
        have h2 : G.2.1 + i = G.2.1 + j := hpq
        omega
  · rw [ab_ws_get] at hk
    cases hwk : w[k]? with
    | none => rw [hwk] at hk; cases hk
    | some a =>
      rw [hwk] at hk
      cases hk
      show G.2.1 ≤ G.2.1 + k
      omega
theorem ab_tot_set {w : ab_W} {k : Nat} {c c' : ab_C} (h : w[k]? = some c) (hs : ab_sz c' = ab_sz c) : ab_tot (w.set k c') = ab_tot w := by
  induction w generalizing k with
  | nil => simp at h
  | cons a l ih =>
    cases k with
    | zero =>
      simp at h
      subst h
      simp [ab_tot, hs]
    | succ k =>
      have h2 := ih (k := k) (by simpa using h)
      simp only [ab_tot] at h2 ⊢
      rw [List.set_cons_succ, List.map_cons, List.map_cons, List.sum_cons, List.sum_cons, h2]
theorem ab_tot_app (w : ab_W) (c : ab_C) : ab_tot (w ++ [c]) = ab_tot w + ab_sz c := by
  simp [ab_tot]
/-! locals -/
def ab_lp (G : ab_G) (lv : ab_L) : List (Nat × Value) := lv.zipIdx.filterMap (fun q => q.1.map (fun v => (q.2, ab_cv G v)))
theorem ab_lp_mem {G : ab_G} {lv : ab_L} {q : Nat × Value} : q ∈ ab_lp G lv ↔ ∃ v, lv[q.1]? = some (some v) ∧ q.2 = ab_cv G v := by
  unfold ab_lp
  rw [List.mem_filterMap]
  constructor
  · rintro ⟨⟨o, i⟩, h1, h2⟩
    rw [List.mem_zipIdx_iff_getElem?] at h1
    cases o with
    | none => cases h2
    | some v =>
      simp at h2
      subst h2
      exact ⟨v, h1, rfl⟩
  · rintro ⟨v, h1, h2⟩
    refine ⟨(some v, q.1), List.mem_zipIdx_iff_getElem?.mpr h1, ?_⟩
    simp [← h2]
def ab_kill (lv : ab_L) (i : Nat) : ab_L := match i with
  | 0 => lv
  | j + 1 => match lv[j]? with
    | some (some (.long _)) => lv.set j none
    | some (some (.double _)) => lv.set j none
    | _ => lv
def ab_st1 (lv : ab_L) (i : Nat) (v : Value) : ab_L := (ab_kill lv i).set i (some v)
def ab_st2 (lv : ab_L) (i : Nat) (v : Value) : ab_L := ((ab_kill lv i).set i (some v)).set (i + 1) none
theorem ab_kill_get {lv : ab_L} {i j : Nat} {v : Value} (h : (ab_kill lv i)[j]? = some (some v)) : lv[j]? = some (some v) ∧ ¬ (j + 1 = i ∧ v.category = 2) := by
  unfold ab_kill at h
  split at h
  · exact ⟨h, fun q => by omega⟩
  · rename_i i' k
    split at h
    · rename_i x hx
      by_cases hjk : k = j
      · subst hjk
        rw [List.getElem?_set_self (List.getElem?_eq_some_iff.mp hx).1] at h
        cases h
      · rw [List.getElem?_set_ne hjk] at h
        exact ⟨h, fun q => by omega⟩
    · rename_i x hx
      by_cases hjk : k = j
      · subst hjk
        rw [List.getElem?_set_self (List.getElem?_eq_some_iff.mp hx).1] at h
        cases h
      · rw [List.getElem?_set_ne hjk] at h
        exact ⟨h, fun q => by omega⟩
    · rename_i h1 h2
      refine ⟨h, fun q => ?_⟩
      obtain ⟨q1, q2⟩ := q
      have hjk : j = k := by omega
      subst hjk
      cases v with
      | long x => exact h1 x h
      | double x => exact h2 x h
      | int x => cases q2
      | float x => cases q2
      | null => cases q2
      | ref x => cases q2
      | retAddr x => cases q2
theorem ab_st1_sub {G : ab_G} {lv : ab_L} {i : Nat} {v : Value} : ∀ q ∈ ab_lp G (ab_st1 lv i v), q ∈ (i, ab_cv G v) :: (ab_lp G lv).filter (fun q => !(q.1 == i) && !(q.1 + 1 == i && q.2.category == 2)) := by
  intro q hq
  obtain ⟨u, h1, h2⟩ := ab_lp_mem.mp hq
  unfold ab_st1 at h1
  by_cases hi : i = q.1
  · subst hi
    by_cases hl : q.1 < (ab_kill lv q.1).length
    · rw [List.getElem?_set_self hl] at h1
      simp at h1
      subst h1
      have : q = (q.1, ab_cv G v) := by rw [← h2]
      rw [this]
      exact List.mem_cons_self
    · have h3 := (List.getElem?_eq_some_iff.mp h1).1
      rw [List.length_set] at h3
      exact absurd h3 hl
  · rw [List.getElem?_set_ne hi] at h1
    obtain ⟨h3, h4⟩ := ab_kill_get h1
    refine List.mem_cons_of_mem _ (List.mem_filter.mpr ⟨ab_lp_mem.mpr ⟨u, h3, h2⟩, ?_⟩)
    have e1 : (q.1 == i) = false := by simp; omega
    rw [e1, h2, ab_cv_cat]
    by_cases h5 : q.1 + 1 = i
    · have : ¬ u.category = 2 := fun h6 => h4 ⟨h5, h6⟩
      simp [this]
    · simp [h5]
theorem ab_has_sub {ls : Array Slot} {nL : Nat} {l l' : List (Nat × Value)} (h : lv_has ls nL l) (hs : ∀ q ∈ l', q ∈ l) : lv_has ls nL l' := ⟨h.1, h.2.1, fun q hq => h.2.2 q (hs q hq)⟩
theorem ab_has_get {G : ab_G} {ls : Array Slot} {nL : Nat} {lv : ab_L} {i : Nat} {v : Value} (h : lv_has ls nL (ab_lp G lv)) (hv : lv[i]? = some (some v)) : ls[i]? = some (.val (ab_cv G v)) := h.2.2 (i, ab_cv G v) (ab_lp_mem.mpr ⟨v, hv, rfl⟩)
end
section
/-! ===== the tables' words that may be handed on ===== -/
def ab_GW : List Cond := lw_tbl.filter goodWord
theorem ab_gw {w : Cond} (i : Nat) (h : lw_tbl[i]? = some w) (hg : goodWord w = true) : w ∈ ab_GW := List.mem_filter.mpr ⟨List.mem_of_getElem? h, hg⟩
abbrev ab_tys (G : ab_G) : List (ClassId × FieldType) := [(G.1.2 0, .int), (G.1.2 1, .char), (G.1.2 2, .boolean), (G.1.2 3, .object "DominoKing$Sheet"), (G.1.2 4, .object "DominoKing$Slot"), (G.1.2 5, .object "DominoKing$Text"), (G.1.2 6, .byte)]
/-- what stays true of a state while only cells from the base on change -/
def ab_St (G : ab_G) (Z : State → Prop) : Prop := ∀ (s U : State), Z s → s.WarmedH U.vm → (∀ q, q < G.2.1 → U.heap[q]? = s.heap[q]?) → Z U
def ab_at (G : ab_G) (w : ab_W) (H : Heap) : Prop := va_P G.1.1 vwCl (ab_ws G w) H ∧ H.size = G.2.1 + w.length ∧ w.length ≤ 1000000
abbrev ab_A (G : ab_G) : Nat → Prop := fun q => G.2.1 ≤ q
/-- return types and returned values -/
def ab_ok (rt : Option FieldType) (v : Option Value) : Bool := match rt, v with
  | none, none => true
  | some .int, some (.int _) => true
  | some .boolean, some (.int x) => x == 0 || x == 1
  | some .char, some (.int x) => x == vp_nar .char x
  | some .byte, some (.int x) => x == vp_nar .byte x
  | some .long, some (.long _) => true
  | some (.object _), some (.ref _) => true
  | some (.object _), some .null => true
  | some (.array _), some (.ref _) => true
  | some (.array _), some .null => true
  | _, _ => false
def ab_ri (v : Option Value) : Instr := match v with
  | none => .return_
  | some (.int _) => .ireturn
  | some (.long _) => .lreturn
  | _ => .areturn
/-- a method, as the machine's tables name it: code, class, locals, answer, name, where its blocks begin -/
abbrev ab_Y : Type := ByteArray × String × Nat × Option FieldType × String × List Nat
section ABJ
variable (G : ab_G) (Z : State → Prop) (p : Program) (l : Launch) (e : Env) (R : Room) (s : State) (m : MethodId) (args : Array Value) (below : List Frame) (meth : Method) (c : Code) (Q : State → Prop)
/-- the machine inside a method -/
def ab_X (Y : ab_Y) (n0 : Nat) : Prop := p.tables.exec = Jvm.exec ∧ c.code = Y.1 ∧ c.maxLocals = Y.2.2.1 ∧ s.vm.findClass Y.2.1 = some m.cls ∧ (∀ w ∈ ab_GW, w.before args s = true) ∧ va_K G.1.1 vwCl (ab_tys G) s ∧ Z s ∧ s.heap.size = G.2.1 + n0 ∧ meth.sig.returnType = Y.2.2.2.1 ∧ meth.locks = false ∧ meth.name = Y.2.2.2.2.1 ∧ ab_St G Z
/-- from this block's place on, with these locals, this stack, this world, the machine comes to Q -/
def ab_J (Y : ab_Y) (n0 t0 pc : Nat) (lv : ab_L) (st : List Value) (w : ab_W) : Prop :=
  ∀ (ls : Array Slot) (H : Heap) (locs : List Loc), lv_has ls Y.2.2.1 (ab_lp G lv) → ab_at G w H → va_S (ab_A G) s.heap H locs → W p l e R s m args below meth c H locs (w.length - n0) (ab_tot w - t0) Q (F0 m pc ls (st.map (ab_cv G)))
/-- an answer is enough for Q -/
def ab_Rt (Y : ab_Y) (n0 t0 : Nat) (v : Option Value) (w : ab_W) : Prop := ab_ok Y.2.2.2.1 v = true → ∀ (pc : Nat) (ls : Array Slot) (H : Heap) (locs : List Loc), ab_at G w H → va_S (ab_A G) s.heap H locs → decode Y.1 pc = .ok (ab_ri v, 1) → W p l e R s m args below meth c H locs (w.length - n0) (ab_tot w - t0) Q (F0 m pc ls (v.toList.map (ab_cv G)))
def ab_Go (Y : ab_Y) (n0 t0 : Nat) (r : ab_R) : Prop := match r with
  | .inl (b, lv, st, w) => ∀ pc, Y.2.2.2.2.2[b]? = some pc → ab_J G p l e R s m args below meth c Q Y n0 t0 pc lv st w
  | .inr (v, w) => ab_Rt G p l e R s m args below meth c Q Y n0 t0 v w
end ABJ
def ab_rw (r : ab_R) : ab_W := match r with
  | .inl (_, _, _, w) => w
  | .inr (_, w) => w
def ab_le (w w' : ab_W) : Prop := w.length ≤ w'.length ∧ ab_tot w ≤ ab_tot w'
theorem ab_le.rf {w : ab_W} : ab_le w w := ⟨Nat.le_refl _, Nat.le_refl _⟩
theorem ab_le.trans {a b c : ab_W} (h : ab_le a b) (h2 : ab_le b c) : ab_le a c := ⟨Nat.le_trans h.1 h2.1, Nat.le_trans h.2 h2.2⟩
theorem ab_le.set {w : ab_W} {k : Nat} {c c' : ab_C} (h : w[k]? = some c) (hs : ab_sz c' = ab_sz c) : ab_le w (w.set k c') := ⟨by rw [List.length_set]; exact Nat.le_refl _, by rw [ab_tot_set h hs]; exact Nat.le_refl _⟩
theorem ab_le.app (w : ab_W) (c : ab_C) : ab_le w (w ++ [c]) := ⟨by simp, by rw [ab_tot_app]; exact Nat.le_add_right _ _⟩
/-- room for what is still to come: d frames, and cells and slots up to N and T -/
def ab_Rm (d n0 t0 N T : Nat) (R : Room) : Prop := d ≤ R.frames ∧ 64 * d ≤ R.locals ∧ N ≤ n0 + R.cells ∧ T ≤ t0 + R.slots
/-- the code k is what the method's bytes do from pc on -/
def ab_Sd (G : ab_G) (Z : State → Prop) (d : Nat) (Y : ab_Y) (pc : Nat) (k : ab_K) : Prop :=
  (∀ lv st w r, k lv st w = some r → ab_le w (ab_rw r)) ∧
  ∀ (p : Program) (l : Launch) (e : Env) (R : Room) (s : State) (m : MethodId) (args : Array Value) (below : List Frame) (meth : Method) (c : Code) (Q : State → Prop) (n0 t0 N T : Nat),
    ab_X G Z p s m args meth c Y n0 → ab_Rm d n0 t0 N T R → ∀ lv st w r, k lv st w = some r → n0 ≤ w.length → t0 ≤ ab_tot w → (ab_rw r).length ≤ N → ab_tot (ab_rw r) ≤ T →
    ab_Go G p l e R s m args below meth c Q Y n0 t0 r → ab_J G p l e R s m args below meth c Q Y n0 t0 pc lv st w
/-- a step that goes on within its block, or leaves it -/
theorem ab_Sd.step {G : ab_G} {Z : State → Prop} {d : Nat} {Y : ab_Y} {pc pc' : Nat} {k k1 : ab_K} (h : ab_Sd G Z d Y pc' k)
    (hk : ∀ lv st w r, k1 lv st w = some r → ∃ lv' st' w', k lv' st' w' = some r ∧ ab_le w w' ∧
      ∀ (p : Program) (l : Launch) (e : Env) (R : Room) (s : State) (m : MethodId) (args : Array Value) (below : List Frame) (meth : Method) (c : Code) (Q : State → Prop) (n0 t0 N T : Nat),
        ab_X G Z p s m args meth c Y n0 → ab_Rm d n0 t0 N T R → n0 ≤ w.length → t0 ≤ ab_tot w → w'.length ≤ N → ab_tot w' ≤ T → ab_J G p l e R s m args below meth c Q Y n0 t0 pc' lv' st' w' → ab_J G p l e R s m args below meth c Q Y n0 t0 pc lv st w) : ab_Sd G Z d Y pc k1 := by
  refine ⟨fun lv st w r hr => ?_, ?_⟩
  · obtain ⟨lv', st', w', h1, h2, -⟩ := hk lv st w r hr
    exact h2.trans (h.1 _ _ _ _ h1)
  · intro p l e R s m args below meth c Q n0 t0 N T hX hR lv st w r hr hn ht hN hT hG
    obtain ⟨lv', st', w', h1, h2, h3⟩ := hk lv st w r hr
    have h4 := h.1 _ _ _ _ h1
    exact h3 p l e R s m args below meth c Q n0 t0 N T hX hR hn ht (Nat.le_trans h4.1 hN) (Nat.le_trans h4.2 hT) (h.2 p l e R s m args below meth c Q n0 t0 N T hX hR lv' st' w' r h1 (Nat.le_trans hn h2.1) (Nat.le_trans ht h2.2) hN hT hG)
/-- a branch -/
theorem ab_Sd.br {G : ab_G} {Z : State → Prop} {d : Nat} {Y : ab_Y} {pc pc' : Nat} {k k1 : ab_K} (h : ab_Sd G Z d Y pc' k)
    (hk : ∀ lv st w r, k1 lv st w = some r → (∃ b lv' st' tg, r = .inl (b, lv', st', w) ∧ Y.2.2.2.2.2[b]? = some tg ∧
        ∀ (p : Program) (l : Launch) (e : Env) (R : Room) (s : State) (m : MethodId) (args : Array Value) (below : List Frame) (meth : Method) (c : Code) (Q : State → Prop) (n0 t0 : Nat),
          ab_X G Z p s m args meth c Y n0 → ab_J G p l e R s m args below meth c Q Y n0 t0 tg lv' st' w → ab_J G p l e R s m args below meth c Q Y n0 t0 pc lv st w) ∨
      (∃ lv' st', k lv' st' w = some r ∧
        ∀ (p : Program) (l : Launch) (e : Env) (R : Room) (s : State) (m : MethodId) (args : Array Value) (below : List Frame) (meth : Method) (c : Code) (Q : State → Prop) (n0 t0 : Nat),
          ab_X G Z p s m args meth c Y n0 → ab_J G p l e R s m args below meth c Q Y n0 t0 pc' lv' st' w → ab_J G p l e R s m args below meth c Q Y n0 t0 pc lv st w)) : ab_Sd G Z d Y pc k1 := by
  refine ⟨fun lv st w r hr => ?_, ?_⟩
  · rcases hk lv st w r hr with ⟨b, lv', st', tg, rfl, -, -⟩ | ⟨lv', st', h1, -⟩
    · exact ab_le.rf
    · exact h.1 _ _ _ _ h1
  · intro p l e R s m args below meth c Q n0 t0 N T hX hR lv st w r hr hn ht hN hT hG
    rcases hk lv st w r hr with ⟨b, lv', st', tg, rfl, h2, h3⟩ | ⟨lv', st', h1, h3⟩
    · exact h3 p l e R s m args below meth c Q n0 t0 hX (hG tg h2)
    · exact h3 p l e R s m args below meth c Q n0 t0 hX (h.2 p l e R s m args below meth c Q n0 t0 N T hX hR lv' st' w r h1 hn ht hN hT hG)
/-- a jump without a way on -/
theorem ab_Sd.jmp {G : ab_G} {Z : State → Prop} {d : Nat} {Y : ab_Y} {pc : Nat} {k1 : ab_K}
    (hk : ∀ lv st w r, k1 lv st w = some r → (∃ b lv' st' tg, r = .inl (b, lv', st', w) ∧ Y.2.2.2.2.2[b]? = some tg ∧
        ∀ (p : Program) (l : Launch) (e : Env) (R : Room) (s : State) (m : MethodId) (args : Array Value) (below : List Frame) (meth : Method) (c : Code) (Q : State → Prop) (n0 t0 : Nat),
          ab_X G Z p s m args meth c Y n0 → ab_J G p l e R s m args below meth c Q Y n0 t0 tg lv' st' w → ab_J G p l e R s m args below meth c Q Y n0 t0 pc lv st w)) : ab_Sd G Z d Y pc k1 := by
  refine ⟨fun lv st w r hr => ?_, ?_⟩
  · obtain ⟨b, lv', st', tg, rfl, -, -⟩ := hk lv st w r hr
    exact ab_le.rf
  · intro p l e R s m args below meth c Q n0 t0 N T hX hR lv st w r hr hn ht hN hT hG
    obtain ⟨b, lv', st', tg, rfl, h2, h3⟩ := hk lv st w r hr
    exact h3 p l e R s m args below meth c Q n0 t0 hX (hG tg h2)
theorem ab_Sd.fail {G : ab_G} {Z : State → Prop} {d : Nat} {Y : ab_Y} {pc : Nat} : ab_Sd G Z d Y pc (fun _ _ _ => none) := by
  refine ⟨fun lv st w r h => ?_, ?_⟩
  · cases h
  · intro p l e R s m args below meth c Q n0 t0 N T hX hR lv st w r hr
    cases hr
end
section
/-! ===== the instructions ===== -/
def o_push (v : Value) (k : ab_K) : ab_K := fun lv st w => k lv (v :: st) w
def o_iload (i : Nat) (k : ab_K) : ab_K := fun lv st w => match lv[i]? with
  | some (some (.int x)) => k lv (.int x :: st) w
  | _ => none
def o_lload (i : Nat) (k : ab_K) : ab_K := fun lv st w => match lv[i]? with
  | some (some (.long x)) => k lv (.long x :: st) w
  | _ => none
def o_aload (i : Nat) (k : ab_K) : ab_K := fun lv st w => match lv[i]? with
  | some (some (.ref a)) => k lv (.ref a :: st) w
  | some (some .null) => k lv (.null :: st) w
  | _ => none
def o_istore (i : Nat) (k : ab_K) : ab_K := fun lv st w => match st with
  | .int x :: st' => k (ab_st1 lv i (.int x)) st' w
  | _ => none
def o_astore (i : Nat) (k : ab_K) : ab_K := fun lv st w => match st with
  | .ref a :: st' => k (ab_st1 lv i (.ref a)) st' w
  | .null :: st' => k (ab_st1 lv i .null) st' w
  | _ => none
def o_iinc (i : Nat) (n : Int32) (k : ab_K) : ab_K := fun lv st w => match lv[i]? with
  | some (some (.int x)) => k (ab_st1 lv i (.int (x + n))) st w
  | _ => none
def o_bin (f : Int32 → Int32 → Int32) (k : ab_K) : ab_K := fun lv st w => match st with
  | .int y :: .int x :: st' => k lv (.int (f x y) :: st') w
  | _ => none
def o_div (f : Int32 → Int32 → Int32) (k : ab_K) : ab_K := fun lv st w => match st with
  | .int y :: .int x :: st' => if y = 0 then none else k lv (.int (f x y) :: st') w
  | _ => none
def o_un (f : Int32 → Int32) (k : ab_K) : ab_K := fun lv st w => match st with
  | .int x :: st' => k lv (.int (f x) :: st') w
  | _ => none
def o_dup (k : ab_K) : ab_K := fun lv st w => match st with
  | v :: st' => if v.category = 1 then k lv (v :: v :: st') w else none
  | _ => none
def o_dup2 (k : ab_K) : ab_K := fun lv st w => match st with
  | v :: u :: st' => if v.category = 1 ∧ u.category = 1 then k lv (v :: u :: v :: u :: st') w else none
  | _ => none
def o_pop (k : ab_K) : ab_K := fun lv st w => match st with
  | v :: st' => if v.category = 1 then k lv st' w else none
  | _ => none
def o_if (q : Int32 → Bool) (tg : Nat) (k : ab_K) : ab_K := fun lv st w => match st with
  | .int x :: st' => if q x = true then some (.inl (tg, lv, st', w)) else k lv st' w
  | _ => none
def o_cmp (q : Int32 → Int32 → Bool) (tg : Nat) (k : ab_K) : ab_K := fun lv st w => match st with
  | .int y :: .int x :: st' => if q x y = true then some (.inl (tg, lv, st', w)) else k lv st' w
  | _ => none
def o_ifnull (tg : Nat) (k : ab_K) : ab_K := fun lv st w => match st with
  | .null :: st' => some (.inl (tg, lv, st', w))
  | .ref _ :: st' => k lv st' w
  | _ => none
def o_ifnonnull (tg : Nat) (k : ab_K) : ab_K := fun lv st w => match st with
  | .ref _ :: st' => some (.inl (tg, lv, st', w))
  | .null :: st' => k lv st' w
  | _ => none
def o_goto (tg : Nat) : ab_K := fun lv st w => some (.inl (tg, lv, st, w))
def o_sw (f : Int32 → Nat) : ab_K := fun lv st w => match st with
  | .int x :: st' => some (.inl (f x, lv, st', w))
  | _ => none
def o_ret (rt : Option FieldType) : ab_K := fun _ st w => match st with
  | [] => if ab_ok rt none = true then some (.inr (none, w)) else none
  | [v] => if ab_ok rt (some v) = true then some (.inr (some v, w)) else none
  | _ => none
section ABO
variable {G : ab_G} {Z : State → Prop} {d : Nat} {Y : ab_Y} {pc : Nat} {k : ab_K}
theorem sn_iconst {n : Int} {v : Int32} (hd : decode Y.1 pc = .ok (.iconst n, 1)) (hv : Int32.ofInt n = v) (h : ab_Sd G Z d Y (pc + 1) k) : ab_Sd G Z d Y pc (o_push (.int v) k) :=
  h.step fun lv st w r hr => ⟨lv, .int v :: st, w, hr, ab_le.rf, fun p l e R s m args below meth c Q n0 t0 N T hX hR hn ht hN hT kk ls H locs hl ha hS => lv_iconst hX.1 hX.2.1 hd hv (kk ls H locs hl ha hS)⟩
theorem sn_bipush {n : Int} {v : Int32} (hd : decode Y.1 pc = .ok (.bipush n, 2)) (hv : (Int8.ofInt n).toInt32 = v) (h : ab_Sd G Z d Y (pc + 2) k) : ab_Sd G Z d Y pc (o_push (.int v) k) :=
  h.step fun lv st w r hr => ⟨lv, .int v :: st, w, hr, ab_le.rf, fun p l e R s m args below meth c Q n0 t0 N T hX hR hn ht hN hT kk ls H locs hl ha hS => lv_bipush hX.1 hX.2.1 hd hv (kk ls H locs hl ha hS)⟩
theorem sn_sipush {n : Int} {v : Int32} (hd : decode Y.1 pc = .ok (.sipush n, 3)) (hv : (Int16.ofInt n).toInt32 = v) (h : ab_Sd G Z d Y (pc + 3) k) : ab_Sd G Z d Y pc (o_push (.int v) k) :=
  h.step fun lv st w r hr => ⟨lv, .int v :: st, w, hr, ab_le.rf, fun p l e R s m args below meth c Q n0 t0 N T hX hR hn ht hN hT kk ls H locs hl ha hS => lv_sipush hX.1 hX.2.1 hd hv (kk ls H locs hl ha hS)⟩
theorem sn_null (hd : decode Y.1 pc = .ok (.aconst_null, 1)) (h : ab_Sd G Z d Y (pc + 1) k) : ab_Sd G Z d Y pc (o_push .null k) :=
  h.step fun lv st w r hr => ⟨lv, .null :: st, w, hr, ab_le.rf, fun p l e R s m args below meth c Q n0 t0 N T hX hR hn ht hN hT kk ls H locs hl ha hS => lv_null hX.1 hX.2.1 hd (kk ls H locs hl ha hS)⟩
theorem sn_lconst {n : Fin 2} {v : Int64} (hd : decode Y.1 pc = .ok (.lconst n, 1)) (hv : Int64.ofNat (n : Nat) = v) (h : ab_Sd G Z d Y (pc + 1) k) : ab_Sd G Z d Y pc (o_push (.long v) k) :=
  h.step fun lv st w r hr => ⟨lv, .long v :: st, w, hr, ab_le.rf, fun p l e R s m args below meth c Q n0 t0 N T hX hR hn ht hN hT kk ls H locs hl ha hS => lv_lconst hX.1 hX.2.1 hd hv (kk ls H locs hl ha hS)⟩
theorem sn_ldc {i : Nat} {v : Int32} (hd : decode Y.1 pc = .ok (.ldc i, 2)) (hw : Cond.constant Y.2.1 i v ∈ ab_GW) (h : ab_Sd G Z d Y (pc + 2) k) : ab_Sd G Z d Y pc (o_push (.int v) k) :=
  h.step fun lv st w r hr => ⟨lv, .int v :: st, w, hr, ab_le.rf, fun p l e R s m args below meth c Q n0 t0 N T hX hR hn ht hN hT kk ls H locs hl ha hS => lv_ldc hX.1 hX.2.1 hX.2.2.2.1 (hX.2.2.2.2.1 _ hw) hd (kk ls H locs hl ha hS)⟩
theorem sn_ldcw {i : Nat} {v : Int32} (hd : decode Y.1 pc = .ok (.ldc_w i, 3)) (hw : Cond.constant Y.2.1 i v ∈ ab_GW) (h : ab_Sd G Z d Y (pc + 3) k) : ab_Sd G Z d Y pc (o_push (.int v) k) :=
  h.step fun lv st w r hr => ⟨lv, .int v :: st, w, hr, ab_le.rf, fun p l e R s m args below meth c Q n0 t0 N T hX hR hn ht hN hT kk ls H locs hl ha hS => lv_ldcw hX.1 hX.2.1 hX.2.2.2.1 (hX.2.2.2.2.1 _ hw) hd (kk ls H locs hl ha hS)⟩
/-- a text constant: an outside thing -/
theorem sn_ldcS {i j : Nat} {tx : String} (hd : decode Y.1 pc = .ok (.ldc i, 2)) (hz : ∀ U, Z U → vk_R Y.2.1 i tx (G.2.2 j) U) (h : ab_Sd G Z d Y (pc + 2) k) : ab_Sd G Z d Y pc (o_push (.ref (1000000 + j)) k) := by
  refine h.step fun lv st w r hr => ⟨lv, .ref (1000000 + j) :: st, w, hr, ab_le.rf, fun p l e R s m args below meth c Q n0 t0 N T hX hR hn ht hN hT kk ls H locs hl ha hS => ?_⟩
  have e1 : ab_cv G (.ref (1000000 + j)) = .ref (G.2.2 j) := by
    show Value.ref (ab_ad G (1000000 + j)) = _
    unfold ab_ad
    rw [if_neg (by omega), Nat.add_sub_cancel_left]
  have h2 := kk ls H locs hl ha hS
  rw [List.map_cons, e1] at h2
  exact va_ldcS hX.1 hX.2.1 hX.2.2.2.1 (hz s hX.2.2.2.2.2.2.1) hd h2
theorem sn_iload_n {n : Fin 4} {i : Nat} (hd : decode Y.1 pc = .ok (.iload_n n, 1)) (hi : (n : Nat) = i) (h : ab_Sd G Z d Y (pc + 1) k) : ab_Sd G Z d Y pc (o_iload i k) := by
  refine h.step fun lv st w r hr => ?_
  unfold o_iload at hr
  split at hr
  · rename_i x hx
    exact ⟨lv, .int x :: st, w, hr, ab_le.rf, fun p l e R s m args below meth c Q n0 t0 N T hX hR hn ht hN hT kk ls H locs hl ha hS => lv_iload_n hX.1 hX.2.1 hd hi (ab_has_get hl hx) (kk ls H locs hl ha hS)⟩
  · cases hr
theorem sn_iload {i : Nat} (hd : decode Y.1 pc = .ok (.iload i, 2)) (h : ab_Sd G Z d Y (pc + 2) k) : ab_Sd G Z d Y pc (o_iload i k) := by
  refine h.step fun lv st w r hr => ?_
  unfold o_iload at hr
  split at hr
  · rename_i x hx
    exact ⟨lv, .int x :: st, w, hr, ab_le.rf, fun p l e R s m args below meth c Q n0 t0 N T hX hR hn ht hN hT kk ls H locs hl ha hS => lv_iload hX.1 hX.2.1 hd (ab_has_get hl hx) (kk ls H locs hl ha hS)⟩
  · cases hr
theorem sn_aload_n {n : Fin 4} {i : Nat} (hd : decode Y.1 pc = .ok (.aload_n n, 1)) (hi : (n : Nat) = i) (h : ab_Sd G Z d Y (pc + 1) k) : ab_Sd G Z d Y pc (o_aload i k) := by
  refine h.step fun lv st w r hr => ?_
  unfold o_aload at hr
  split at hr
  · rename_i x hx
    exact ⟨lv, .ref x :: st, w, hr, ab_le.rf, fun p l e R s m args below meth c Q n0 t0 N T hX hR hn ht hN hT kk ls H locs hl ha hS => lv_aload_n hX.1 hX.2.1 hd hi (ab_has_get hl hx) (kk ls H locs hl ha hS)⟩
  · rename_i hx
    exact ⟨lv, .null :: st, w, hr, ab_le.rf, fun p l e R s m args below meth c Q n0 t0 N T hX hR hn ht hN hT kk ls H locs hl ha hS => lv_aload_nN hX.1 hX.2.1 hd hi (ab_has_get hl hx) (kk ls H locs hl ha hS)⟩
  · cases hr
theorem sn_aload {i : Nat} (hd : decode Y.1 pc = .ok (.aload i, 2)) (h : ab_Sd G Z d Y (pc + 2) k) : ab_Sd G Z d Y pc (o_aload i k) := by
  refine h.step fun lv st w r hr => ?_
  unfold o_aload at hr
  split at hr
  · rename_i x hx
    exact ⟨lv, .ref x :: st, w, hr, ab_le.rf, fun p l e R s m args below meth c Q n0 t0 N T hX hR hn ht hN hT kk ls H locs hl ha hS => lv_aload hX.1 hX.2.1 hd (ab_has_get hl hx) (kk ls H locs hl ha hS)⟩
  · rename_i hx
    exact ⟨lv, .null :: st, w, hr, ab_le.rf, fun p l e R s m args below meth c Q n0 t0 N T hX hR hn ht hN hT kk ls H locs hl ha hS => lv_aloadN hX.1 hX.2.1 hd (ab_has_get hl hx) (kk ls H locs hl ha hS)⟩
  · cases hr
theorem sn_istore_n {n : Fin 4} {i : Nat} (hd : decode Y.1 pc = .ok (.istore_n n, 1)) (hi : (n : Nat) = i) (hL : i < Y.2.2.1) (h : ab_Sd G Z d Y (pc + 1) k) : ab_Sd G Z d Y pc (o_istore i k) := by
  refine h.step fun lv st w r hr => ?_
  unfold o_istore at hr
  split at hr
  · rename_i x st'
    exact ⟨_, st', w, hr, ab_le.rf, fun p l e R s m args below meth c Q n0 t0 N T hX hR hn ht hN hT kk ls H locs hl ha hS => lv_istore_n hX.1 hX.2.1 hd hi hl hL rfl (fun ls' hl' => kk ls' H locs (ab_has_sub hl' ab_st1_sub) ha hS)⟩
  · cases hr
theorem sn_istore {i : Nat} (hd : decode Y.1 pc = .ok (.istore i, 2)) (hL : i < Y.2.2.1) (h : ab_Sd G Z d Y (pc + 2) k) : ab_Sd G Z d Y pc (o_istore i k) := by
  refine h.step fun lv st w r hr => ?_
  unfold o_istore at hr
  split at hr
  · rename_i x st'
    exact ⟨_, st', w, hr, ab_le.rf, fun p l e R s m args below meth c Q n0 t0 N T hX hR hn ht hN hT kk ls H locs hl ha hS => lv_istore hX.1 hX.2.1 hd hl hL rfl (fun ls' hl' => kk ls' H locs (ab_has_sub hl' ab_st1_sub) ha hS)⟩
  · cases hr
theorem sn_astore_n {n : Fin 4} {i : Nat} (hd : decode Y.1 pc = .ok (.astore_n n, 1)) (hi : (n : Nat) = i) (hL : i < Y.2.2.1) (h : ab_Sd G Z d Y (pc + 1) k) : ab_Sd G Z d Y pc (o_astore i k) := by
  refine h.step fun lv st w r hr => ?_
  unfold o_astore at hr
  split at hr
  · rename_i x st'
    exact ⟨_, st', w, hr, ab_le.rf, fun p l e R s m args below meth c Q n0 t0 N T hX hR hn ht hN hT kk ls H locs hl ha hS => lv_astore_n hX.1 hX.2.1 hd hi hl hL rfl (fun ls' hl' => kk ls' H locs (ab_has_sub hl' ab_st1_sub) ha hS)⟩
  · rename_i st'
    exact ⟨_, st', w, hr, ab_le.rf, fun p l e R s m args below meth c Q n0 t0 N T hX hR hn ht hN hT kk ls H locs hl ha hS => lv_astore_nN hX.1 hX.2.1 hd hi hl hL rfl (fun ls' hl' => kk ls' H locs (ab_has_sub hl' ab_st1_sub) ha hS)⟩
  · cases hr
theorem sn_astore {i : Nat} (hd : decode Y.1 pc = .ok (.astore i, 2)) (hL : i < Y.2.2.1) (h : ab_Sd G Z d Y (pc + 2) k) : ab_Sd G Z d Y pc (o_astore i k) := by
  refine h.step fun lv st w r hr => ?_
  unfold o_astore at hr
  split at hr
  · rename_i x st'
    exact ⟨_, st', w, hr, ab_le.rf, fun p l e R s m args below meth c Q n0 t0 N T hX hR hn ht hN hT kk ls H locs hl ha hS => lv_astore hX.1 hX.2.1 hd hl hL rfl (fun ls' hl' => kk ls' H locs (ab_has_sub hl' ab_st1_sub) ha hS)⟩
  · rename_i st'
    exact ⟨_, st', w, hr, ab_le.rf, fun p l e R s m args below meth c Q n0 t0 N T hX hR hn ht hN hT kk ls H locs hl ha hS => lv_astoreN hX.1 hX.2.1 hd hl hL rfl (fun ls' hl' => kk ls' H locs (ab_has_sub hl' ab_st1_sub) ha hS)⟩
  · cases hr
theorem sn_iinc {i : Nat} {n : Int} {v : Int32} (hd : decode Y.1 pc = .ok (.iinc i n, 3)) (hv : Int32.ofInt n = v) (hL : i < Y.2.2.1) (h : ab_Sd G Z d Y (pc + 3) k) : ab_Sd G Z d Y pc (o_iinc i v k) := by
  refine h.step fun lv st w r hr => ?_
  unfold o_iinc at hr
  split at hr
  · rename_i x hx
    subst hv
    refine ⟨_, st, w, hr, ab_le.rf, fun p l e R s m args below meth c Q n0 t0 N T hX hR hn ht hN hT kk ls H locs hl ha hS => ?_⟩
    obtain ⟨j, hj⟩ := List.getElem?_of_mem (ab_lp_mem (G := G) (q := (i, .int x)) |>.mpr ⟨_, hx, rfl⟩)
    exact lv_iinc hX.1 hX.2.1 hd hl hj rfl hL rfl (fun ls' hl' => kk ls' H locs (ab_has_sub hl' ab_st1_sub) ha hS)
  · cases hr
end ABO
end
