/-! the words that the code rests on, by their places -/
theorem w_0 : Jvm.Cond.selects "DominoKing" ⟨"DominoKing", "isStone", "(I)Z"⟩ ⟨"DominoKing", "isStone", "(I)Z"⟩ ∈ ab_GW := ab_gw 0 (by decide +kernel) rfl
theorem w_1 : Jvm.Cond.selects "DominoKing$Thoughts" ⟨"DominoKing$Thoughts", "offerStone", "(LDominoKing$Table;II)V"⟩ ⟨"DominoKing$Thoughts", "offerStone", "(LDominoKing$Table;II)V"⟩ ∈ ab_GW := ab_gw 1 (by decide +kernel) rfl
theorem w_2 : Jvm.Cond.selects "DominoKing$Reader" ⟨"DominoKing$Reader", "begin", "()V"⟩ ⟨"DominoKing$Reader", "begin", "()V"⟩ ∈ ab_GW := ab_gw 2 (by decide +kernel) rfl
theorem w_3 : Jvm.Cond.selects "DominoKing$Reader" ⟨"DominoKing$Reader", "step", "()V"⟩ ⟨"DominoKing$Reader", "step", "()V"⟩ ∈ ab_GW := ab_gw 3 (by decide +kernel) rfl
theorem w_4 : Jvm.Cond.selects "DominoKing$Reader" ⟨"DominoKing$Reader", "sortAt", "(I)I"⟩ ⟨"DominoKing$Reader", "sortAt", "(I)I"⟩ ∈ ab_GW := ab_gw 4 (by decide +kernel) rfl
theorem w_5 : Jvm.Cond.selects "DominoKing$Reader" ⟨"DominoKing$Reader", "keyAtHand", "()I"⟩ ⟨"DominoKing$Reader", "keyAtHand", "()I"⟩ ∈ ab_GW := ab_gw 5 (by decide +kernel) rfl
theorem w_6 : Jvm.Cond.selects "DominoKing$Reader" ⟨"DominoKing$Reader", "wordIs", "(Ljava/lang/String;)Z"⟩ ⟨"DominoKing$Reader", "wordIs", "(Ljava/lang/String;)Z"⟩ ∈ ab_GW := ab_gw 6 (by decide +kernel) rfl
theorem w_7 : Jvm.Cond.selects "DominoKing$Reader" ⟨"DominoKing$Reader", "readLevel", "(III)V"⟩ ⟨"DominoKing$Reader", "readLevel", "(III)V"⟩ ∈ ab_GW := ab_gw 7 (by decide +kernel) rfl
theorem w_8 : Jvm.Cond.selects "DominoKing$Reader" ⟨"DominoKing$Reader", "readPiece", "(II)V"⟩ ⟨"DominoKing$Reader", "readPiece", "(II)V"⟩ ∈ ab_GW := ab_gw 8 (by decide +kernel) rfl
theorem w_9 : Jvm.Cond.selects "DominoKing$Reader" ⟨"DominoKing$Reader", "signAtHand", "()I"⟩ ⟨"DominoKing$Reader", "signAtHand", "()I"⟩ ∈ ab_GW := ab_gw 9 (by decide +kernel) rfl
theorem w_10 : Jvm.Cond.selects "DominoKing$Reader" ⟨"DominoKing$Reader", "emit", "(II)V"⟩ ⟨"DominoKing$Reader", "emit", "(II)V"⟩ ∈ ab_GW := ab_gw 10 (by decide +kernel) rfl
theorem w_11 : Jvm.Cond.selects "DominoKing$Reader" ⟨"DominoKing$Reader", "close", "()V"⟩ ⟨"DominoKing$Reader", "close", "()V"⟩ ∈ ab_GW := ab_gw 11 (by decide +kernel) rfl
theorem w_12 : Jvm.Cond.selects "DominoKing$Reader" ⟨"DominoKing$Reader", "readOperand", "()V"⟩ ⟨"DominoKing$Reader", "readOperand", "()V"⟩ ∈ ab_GW := ab_gw 12 (by decide +kernel) rfl
theorem w_13 : Jvm.Cond.selects "DominoKing$Reader" ⟨"DominoKing$Reader", "numberAtHand", "()I"⟩ ⟨"DominoKing$Reader", "numberAtHand", "()I"⟩ ∈ ab_GW := ab_gw 13 (by decide +kernel) rfl
theorem w_14 : Jvm.Cond.selects "DominoKing$Reader" ⟨"DominoKing$Reader", "nameAtHand", "()I"⟩ ⟨"DominoKing$Reader", "nameAtHand", "()I"⟩ ∈ ab_GW := ab_gw 14 (by decide +kernel) rfl
theorem w_15 : Jvm.Cond.selects "DominoKing" ⟨"DominoKing", "lookFor", "(II)I"⟩ ⟨"DominoKing", "lookFor", "(II)I"⟩ ∈ ab_GW := ab_gw 15 (by decide +kernel) rfl
theorem w_16 : Jvm.Cond.selects "DominoKingModel" ⟨"DominoKingModel", "comes", "(III)I"⟩ ⟨"DominoKingModel", "comes", "(III)I"⟩ ∈ ab_GW := ab_gw 16 (by decide +kernel) rfl
theorem w_17 : Jvm.Cond.selects "DominoKingModel" ⟨"DominoKingModel", "isStone", "(I)Z"⟩ ⟨"DominoKingModel", "isStone", "(I)Z"⟩ ∈ ab_GW := ab_gw 17 (by decide +kernel) rfl
theorem w_18 : Jvm.Cond.selects "DominoKingModel" ⟨"DominoKingModel", "of", "(II)I"⟩ ⟨"DominoKingModel", "of", "(II)I"⟩ ∈ ab_GW := ab_gw 18 (by decide +kernel) rfl
theorem w_19 : Jvm.Cond.selects "DominoKingModel" ⟨"DominoKingModel", "heavyOf", "(I)I"⟩ ⟨"DominoKingModel", "heavyOf", "(I)I"⟩ ∈ ab_GW := ab_gw 19 (by decide +kernel) rfl
theorem w_20 : Jvm.Cond.selects "DominoKingModel" ⟨"DominoKingModel", "worthOf", "(I)I"⟩ ⟨"DominoKingModel", "worthOf", "(I)I"⟩ ∈ ab_GW := ab_gw 20 (by decide +kernel) rfl
theorem w_21 : Jvm.Cond.selects "DominoKingModel" ⟨"DominoKingModel", "offOf", "(III)I"⟩ ⟨"DominoKingModel", "offOf", "(III)I"⟩ ∈ ab_GW := ab_gw 21 (by decide +kernel) rfl
theorem w_22 : Jvm.Cond.selects "DominoKingModel" ⟨"DominoKingModel", "spotsOf", "(III)I"⟩ ⟨"DominoKingModel", "spotsOf", "(III)I"⟩ ∈ ab_GW := ab_gw 22 (by decide +kernel) rfl
theorem w_23 : Jvm.Cond.selects "DominoKingModel" ⟨"DominoKingModel", "darkOf", "(III)I"⟩ ⟨"DominoKingModel", "darkOf", "(III)I"⟩ ∈ ab_GW := ab_gw 23 (by decide +kernel) rfl
theorem w_24 : Jvm.Cond.selects "DominoKingModel" ⟨"DominoKingModel", "counts", "(I)I"⟩ ⟨"DominoKingModel", "counts", "(I)I"⟩ ∈ ab_GW := ab_gw 24 (by decide +kernel) rfl
theorem w_25 : Jvm.Cond.selects "DominoKingModel" ⟨"DominoKingModel", "worksOut", "(I)I"⟩ ⟨"DominoKingModel", "worksOut", "(I)I"⟩ ∈ ab_GW := ab_gw 25 (by decide +kernel) rfl
theorem w_26 : Jvm.Cond.selects "DominoKingModel" ⟨"DominoKingModel", "becomes", "(II)I"⟩ ⟨"DominoKingModel", "becomes", "(II)I"⟩ ∈ ab_GW := ab_gw 26 (by decide +kernel) rfl
theorem w_27 : Jvm.Cond.selects "DominoKingModel" ⟨"DominoKingModel", "holder", "(I)I"⟩ ⟨"DominoKingModel", "holder", "(I)I"⟩ ∈ ab_GW := ab_gw 27 (by decide +kernel) rfl
theorem w_28 : Jvm.Cond.selects "DominoKingModel" ⟨"DominoKingModel", "draw", "()I"⟩ ⟨"DominoKingModel", "draw", "()I"⟩ ∈ ab_GW := ab_gw 28 (by decide +kernel) rfl
theorem w_29 : Jvm.Cond.selects "DominoKingModel" ⟨"DominoKingModel", "manyLaid", "()I"⟩ ⟨"DominoKingModel", "manyLaid", "()I"⟩ ∈ ab_GW := ab_gw 29 (by decide +kernel) rfl
theorem w_30 : Jvm.Cond.selects "DominoKingModel" ⟨"DominoKingModel", "goesOn", "(I)V"⟩ ⟨"DominoKingModel", "goesOn", "(I)V"⟩ ∈ ab_GW := ab_gw 30 (by decide +kernel) rfl
theorem w_31 : Jvm.Cond.selects "DominoKingModel" ⟨"DominoKingModel", "day", "()V"⟩ ⟨"DominoKingModel", "day", "()V"⟩ ∈ ab_GW := ab_gw 31 (by decide +kernel) rfl
theorem w_32 : Jvm.Cond.selects "DominoKingModel" ⟨"DominoKingModel", "laysIn", "(I)V"⟩ ⟨"DominoKingModel", "laysIn", "(I)V"⟩ ∈ ab_GW := ab_gw 32 (by decide +kernel) rfl
theorem w_33 : Jvm.Cond.selects "DominoKingModel" ⟨"DominoKingModel", "picture", "()I"⟩ ⟨"DominoKingModel", "picture", "()I"⟩ ∈ ab_GW := ab_gw 33 (by decide +kernel) rfl
theorem w_34 : Jvm.Cond.selects "DominoKingModel" ⟨"DominoKingModel", "matches", "()I"⟩ ⟨"DominoKingModel", "matches", "()I"⟩ ∈ ab_GW := ab_gw 34 (by decide +kernel) rfl
theorem w_35 : Jvm.Cond.selects "DominoKingModel" ⟨"DominoKingModel", "layable", "(I)I"⟩ ⟨"DominoKingModel", "layable", "(I)I"⟩ ∈ ab_GW := ab_gw 35 (by decide +kernel) rfl
theorem w_36 : Jvm.Cond.selects "DominoKingModel" ⟨"DominoKingModel", "leastAt", "(II)I"⟩ ⟨"DominoKingModel", "leastAt", "(II)I"⟩ ∈ ab_GW := ab_gw 36 (by decide +kernel) rfl
theorem w_37 : Jvm.Cond.selects "DominoKingModel" ⟨"DominoKingModel", "change", "(II)V"⟩ ⟨"DominoKingModel", "change", "(II)V"⟩ ∈ ab_GW := ab_gw 37 (by decide +kernel) rfl
theorem w_38 : Jvm.Cond.selects "DominoKingModel" ⟨"DominoKingModel", "falls", "(I)I"⟩ ⟨"DominoKingModel", "falls", "(I)I"⟩ ∈ ab_GW := ab_gw 38 (by decide +kernel) rfl
theorem w_39 : Jvm.Cond.selects "DominoKingModel" ⟨"DominoKingModel", "thinks", "()V"⟩ ⟨"DominoKingModel", "thinks", "()V"⟩ ∈ ab_GW := ab_gw 39 (by decide +kernel) rfl
theorem w_40 : Jvm.Cond.selects "DominoKingModel" ⟨"DominoKingModel", "putsBack", "()V"⟩ ⟨"DominoKingModel", "putsBack", "()V"⟩ ∈ ab_GW := ab_gw 40 (by decide +kernel) rfl
theorem w_41 : Jvm.Cond.selects "DominoKingModel" ⟨"DominoKingModel", "isLaid", "()Z"⟩ ⟨"DominoKingModel", "isLaid", "()Z"⟩ ∈ ab_GW := ab_gw 41 (by decide +kernel) rfl
theorem w_42 : Jvm.Cond.selects "DominoKingModel" ⟨"DominoKingModel", "offBy", "(II)J"⟩ ⟨"DominoKingModel", "offBy", "(II)J"⟩ ∈ ab_GW := ab_gw 42 (by decide +kernel) rfl
theorem w_43 : Jvm.Cond.selects "DominoKingModel" ⟨"DominoKingModel", "darkAt", "(I)I"⟩ ⟨"DominoKingModel", "darkAt", "(I)I"⟩ ∈ ab_GW := ab_gw 43 (by decide +kernel) rfl
theorem w_44 : Jvm.Cond.selects "DominoKingModel" ⟨"DominoKingModel", "go", "()V"⟩ ⟨"DominoKingModel", "go", "()V"⟩ ∈ ab_GW := ab_gw 44 (by decide +kernel) rfl
theorem w_45 : Jvm.Cond.selects "DominoKingModel" ⟨"DominoKingModel", "isLetter", "(I)Z"⟩ ⟨"DominoKingModel", "isLetter", "(I)Z"⟩ ∈ ab_GW := ab_gw 45 (by decide +kernel) rfl
theorem w_46 : Jvm.Cond.selects "DominoKingModel" ⟨"DominoKingModel", "isFigure", "(I)Z"⟩ ⟨"DominoKingModel", "isFigure", "(I)Z"⟩ ∈ ab_GW := ab_gw 46 (by decide +kernel) rfl
theorem w_47 : Jvm.Cond.selects "DominoKingModel" ⟨"DominoKingModel", "takesKey", "()Z"⟩ ⟨"DominoKingModel", "takesKey", "()Z"⟩ ∈ ab_GW := ab_gw 47 (by decide +kernel) rfl
theorem w_48 : Jvm.Cond.selects "DominoKingModel" ⟨"DominoKingModel", "takesE", "()Z"⟩ ⟨"DominoKingModel", "takesE", "()Z"⟩ ∈ ab_GW := ab_gw 48 (by decide +kernel) rfl
theorem w_49 : Jvm.Cond.selects "DominoKingModel" ⟨"DominoKingModel", "takesPart", "()Z"⟩ ⟨"DominoKingModel", "takesPart", "()Z"⟩ ∈ ab_GW := ab_gw 49 (by decide +kernel) rfl
theorem w_50 : Jvm.Cond.selects "DominoKingModel" ⟨"DominoKingModel", "nameOf", "(I)I"⟩ ⟨"DominoKingModel", "nameOf", "(I)I"⟩ ∈ ab_GW := ab_gw 50 (by decide +kernel) rfl
theorem w_51 : Jvm.Cond.selects "DominoKingModel" ⟨"DominoKingModel", "settle", "(I)V"⟩ ⟨"DominoKingModel", "settle", "(I)V"⟩ ∈ ab_GW := ab_gw 51 (by decide +kernel) rfl
theorem w_52 : Jvm.Cond.selects "DominoKingModel" ⟨"DominoKingModel", "notsOpen", "()I"⟩ ⟨"DominoKingModel", "notsOpen", "()I"⟩ ∈ ab_GW := ab_gw 52 (by decide +kernel) rfl
theorem w_53 : Jvm.Cond.selects "DominoKingModel" ⟨"DominoKingModel", "signHere", "()I"⟩ ⟨"DominoKingModel", "signHere", "()I"⟩ ∈ ab_GW := ab_gw 53 (by decide +kernel) rfl
theorem w_55 : (Jvm.Cond.initialized "DominoKing") ∈ ab_GW := ab_gw 55 (by decide +kernel) rfl
theorem w_56 : (Jvm.Cond.initialized "DominoKing$Table") ∈ ab_GW := ab_gw 56 (by decide +kernel) rfl
theorem w_57 : (Jvm.Cond.initialized "java/util/Arrays") ∈ ab_GW := ab_gw 57 (by decide +kernel) rfl
theorem w_58 : (Jvm.Cond.initialized "DominoKing$Thoughts") ∈ ab_GW := ab_gw 58 (by decide +kernel) rfl
theorem w_59 : (Jvm.Cond.initialized "DominoKing$Tape") ∈ ab_GW := ab_gw 59 (by decide +kernel) rfl
theorem w_60 : (Jvm.Cond.initialized "DominoKing$Reader") ∈ ab_GW := ab_gw 60 (by decide +kernel) rfl
theorem w_61 : (Jvm.Cond.initialized "DominoKing$Sheet") ∈ ab_GW := ab_gw 61 (by decide +kernel) rfl
theorem w_62 : (Jvm.Cond.initialized "DominoKing$Slot") ∈ ab_GW := ab_gw 62 (by decide +kernel) rfl
theorem w_63 : (Jvm.Cond.initialized "DominoKingModel") ∈ ab_GW := ab_gw 63 (by decide +kernel) rfl
theorem w_64 : (Jvm.Cond.initialized "DominoKing$Kinds") ∈ ab_GW := ab_gw 64 (by decide +kernel) rfl
theorem w_65 : (Jvm.Cond.initialized "DominoKing$Text") ∈ ab_GW := ab_gw 65 (by decide +kernel) rfl
theorem w_66 : (Jvm.Cond.initialized "java/lang/Math") ∈ ab_GW := ab_gw 66 (by decide +kernel) rfl
theorem w_67 : (Jvm.Cond.initialized "java/lang/Integer") ∈ ab_GW := ab_gw 67 (by decide +kernel) rfl
theorem w_68 : (Jvm.Cond.initialized "java/lang/System") ∈ ab_GW := ab_gw 68 (by decide +kernel) rfl
theorem w_69 : (Jvm.Cond.initialized "java/lang/String") ∈ ab_GW := ab_gw 69 (by decide +kernel) rfl
theorem w_70 : (Jvm.Cond.initialized "java/lang/StringLatin1") ∈ ab_GW := ab_gw 70 (by decide +kernel) rfl
theorem w_71 : (Jvm.Cond.initialized "jdk/internal/util/Preconditions") ∈ ab_GW := ab_gw 71 (by decide +kernel) rfl
theorem w_73 : (Jvm.Cond.initialized "java/lang/Character") ∈ ab_GW := ab_gw 73 (by decide +kernel) rfl
theorem w_74 : (Jvm.Cond.classLink "DominoKingLaw" (7 : Nat) "DominoKing") ∈ ab_GW := ab_gw 74 (by decide +kernel) rfl
theorem w_75 : (Jvm.Cond.instantiable "DominoKing" (10 : Nat)) ∈ ab_GW := ab_gw 75 (by decide +kernel) rfl
theorem w_76 : (Jvm.Cond.methodLink "DominoKingLaw" (9 : Nat) ({ cls := "DominoKing", name := "<init>", desc := "()V" } : Jvm.MethodName)) ∈ ab_GW := ab_gw 76 (by decide +kernel) rfl
theorem w_77 : (Jvm.Cond.instanceMethod ({ cls := "DominoKing", name := "<init>", desc := "()V" } : Jvm.MethodName)) ∈ ab_GW := ab_gw 77 (by decide +kernel) rfl
theorem w_78 : (Jvm.Cond.code ({ cls := "DominoKing", name := "<init>", desc := "()V" } : Jvm.MethodName) prog_1_method_1_code (2 : Nat) (Option.none : Option Jvm.ClassFile.FieldType)) ∈ ab_GW := ab_gw 78 (by decide +kernel) rfl
theorem w_79 : (Jvm.Cond.methodLink "DominoKing" (1 : Nat) ({ cls := "java/lang/Object", name := "<init>", desc := "()V" } : Jvm.MethodName)) ∈ ab_GW := ab_gw 79 (by decide +kernel) rfl
theorem w_80 : (Jvm.Cond.instanceMethod ({ cls := "java/lang/Object", name := "<init>", desc := "()V" } : Jvm.MethodName)) ∈ ab_GW := ab_gw 80 (by decide +kernel) rfl
theorem w_81 : (Jvm.Cond.code ({ cls := "java/lang/Object", name := "<init>", desc := "()V" } : Jvm.MethodName) object_method_1_code (1 : Nat) (Option.none : Option Jvm.ClassFile.FieldType)) ∈ ab_GW := ab_gw 81 (by decide +kernel) rfl
theorem w_82 : (Jvm.Cond.classLink "DominoKing" (7 : Nat) "DominoKing$Table") ∈ ab_GW := ab_gw 82 (by decide +kernel) rfl
theorem w_83 : (Jvm.Cond.instantiable "DominoKing$Table" (15 : Nat)) ∈ ab_GW := ab_gw 83 (by decide +kernel) rfl
theorem w_84 : (Jvm.Cond.methodLink "DominoKing" (9 : Nat) ({ cls := "DominoKing$Table", name := "<init>", desc := "()V" } : Jvm.MethodName)) ∈ ab_GW := ab_gw 84 (by decide +kernel) rfl
theorem w_85 : (Jvm.Cond.instanceMethod ({ cls := "DominoKing$Table", name := "<init>", desc := "()V" } : Jvm.MethodName)) ∈ ab_GW := ab_gw 85 (by decide +kernel) rfl
theorem w_86 : (Jvm.Cond.code ({ cls := "DominoKing$Table", name := "<init>", desc := "()V" } : Jvm.MethodName) prog_6_method_1_code (1 : Nat) (Option.none : Option Jvm.ClassFile.FieldType)) ∈ ab_GW := ab_gw 86 (by decide +kernel) rfl
theorem w_87 : (Jvm.Cond.methodLink "DominoKing$Table" (3 : Nat) ({ cls := "java/lang/Object", name := "<init>", desc := "()V" } : Jvm.MethodName)) ∈ ab_GW := ab_gw 87 (by decide +kernel) rfl
theorem w_88 : (Jvm.Cond.classLink "DominoKing$Table" (36 : Nat) "DominoKing$Text") ∈ ab_GW := ab_gw 88 (by decide +kernel) rfl
theorem w_90 : (Jvm.Cond.methodLink "DominoKing$Table" (49 : Nat) ({ cls := "java/util/Arrays", name := "fill", desc := "([II)V" } : Jvm.MethodName)) ∈ ab_GW := ab_gw 90 (by decide +kernel) rfl
theorem w_91 : (Jvm.Cond.static ({ cls := "java/util/Arrays", name := "fill", desc := "([II)V" } : Jvm.MethodName)) ∈ ab_GW := ab_gw 91 (by decide +kernel) rfl
theorem w_92 : (Jvm.Cond.code ({ cls := "java/util/Arrays", name := "fill", desc := "([II)V" } : Jvm.MethodName) prog_20_method_103_code (4 : Nat) (Option.none : Option Jvm.ClassFile.FieldType)) ∈ ab_GW := ab_gw 92 (by decide +kernel) rfl
theorem w_93 : (Jvm.Cond.fieldLink "DominoKing$Table" (9 : Nat) "DominoKing$Table" "kinds" "[I") ∈ ab_GW := ab_gw 93 (by decide +kernel) rfl
theorem w_94 : (Jvm.Cond.fieldLink "DominoKing" (78 : Nat) "DominoKing$Table" "kinds" "[I") ∈ ab_GW := ab_gw 94 (by decide +kernel) rfl
theorem w_95 : (Jvm.Cond.fieldLink "DominoKing$Table" (15 : Nat) "DominoKing$Table" "lefts" "[I") ∈ ab_GW := ab_gw 95 (by decide +kernel) rfl
theorem w_96 : (Jvm.Cond.fieldLink "DominoKing" (81 : Nat) "DominoKing$Table" "lefts" "[I") ∈ ab_GW := ab_gw 96 (by decide +kernel) rfl
theorem w_97 : (Jvm.Cond.fieldLink "DominoKing$Table" (18 : Nat) "DominoKing$Table" "rights" "[I") ∈ ab_GW := ab_gw 97 (by decide +kernel) rfl
theorem w_98 : (Jvm.Cond.fieldLink "DominoKing" (84 : Nat) "DominoKing$Table" "rights" "[I") ∈ ab_GW := ab_gw 98 (by decide +kernel) rfl
theorem w_99 : (Jvm.Cond.fieldLink "DominoKing$Table" (21 : Nat) "DominoKing$Table" "places" "[I") ∈ ab_GW := ab_gw 99 (by decide +kernel) rfl
theorem w_100 : (Jvm.Cond.fieldLink "DominoKing" (87 : Nat) "DominoKing$Table" "places" "[I") ∈ ab_GW := ab_gw 100 (by decide +kernel) rfl
theorem w_101 : (Jvm.Cond.fieldLink "DominoKing$Thoughts" (62 : Nat) "DominoKing$Table" "places" "[I") ∈ ab_GW := ab_gw 101 (by decide +kernel) rfl
theorem w_102 : (Jvm.Cond.fieldLink "DominoKing$Table" (24 : Nat) "DominoKing$Table" "turned" "[I") ∈ ab_GW := ab_gw 102 (by decide +kernel) rfl
theorem w_103 : (Jvm.Cond.fieldLink "DominoKing" (90 : Nat) "DominoKing$Table" "turned" "[I") ∈ ab_GW := ab_gw 103 (by decide +kernel) rfl
theorem w_104 : (Jvm.Cond.fieldLink "DominoKing$Table" (27 : Nat) "DominoKing$Table" "held" "[I") ∈ ab_GW := ab_gw 104 (by decide +kernel) rfl
theorem w_105 : (Jvm.Cond.fieldLink "DominoKing" (117 : Nat) "DominoKing$Table" "held" "[I") ∈ ab_GW := ab_gw 105 (by decide +kernel) rfl
theorem w_106 : (Jvm.Cond.fieldLink "DominoKing$Table" (30 : Nat) "DominoKing$Table" "wants" "[I") ∈ ab_GW := ab_gw 106 (by decide +kernel) rfl
theorem w_107 : (Jvm.Cond.fieldLink "DominoKing" (125 : Nat) "DominoKing$Table" "wants" "[I") ∈ ab_GW := ab_gw 107 (by decide +kernel) rfl
theorem w_108 : (Jvm.Cond.fieldLink "DominoKing$Table" (33 : Nat) "DominoKing$Table" "darks" "[I") ∈ ab_GW := ab_gw 108 (by decide +kernel) rfl
theorem w_109 : (Jvm.Cond.fieldLink "DominoKing$Table" (38 : Nat) "DominoKing$Table" "texts" "[LDominoKing$Text;") ∈ ab_GW := ab_gw 109 (by decide +kernel) rfl
theorem w_110 : (Jvm.Cond.fieldLink "DominoKing$Table" (42 : Nat) "DominoKing$Table" "laws" "[I") ∈ ab_GW := ab_gw 110 (by decide +kernel) rfl
theorem w_111 : (Jvm.Cond.fieldLink "DominoKing" (240 : Nat) "DominoKing$Table" "laws" "[I") ∈ ab_GW := ab_gw 111 (by decide +kernel) rfl
theorem w_112 : (Jvm.Cond.fieldLink "DominoKing" (65 : Nat) "DominoKing$Table" "stones" "I") ∈ ab_GW := ab_gw 112 (by decide +kernel) rfl
theorem w_113 : (Jvm.Cond.fieldLink "DominoKing$Table" (61 : Nat) "DominoKing$Table" "stones" "I") ∈ ab_GW := ab_gw 113 (by decide +kernel) rfl
theorem w_114 : (Jvm.Cond.fieldLink "DominoKing$Thoughts" (37 : Nat) "DominoKing$Table" "stones" "I") ∈ ab_GW := ab_gw 114 (by decide +kernel) rfl
theorem w_115 : (Jvm.Cond.fieldLink "DominoKing$Table" (64 : Nat) "DominoKing$Table" "textCount" "I") ∈ ab_GW := ab_gw 115 (by decide +kernel) rfl
theorem w_116 : (Jvm.Cond.fieldLink "DominoKing" (224 : Nat) "DominoKing$Table" "textCount" "I") ∈ ab_GW := ab_gw 116 (by decide +kernel) rfl
theorem w_117 : (Jvm.Cond.fieldLink "DominoKing$Table" (67 : Nat) "DominoKing$Table" "wind" "I") ∈ ab_GW := ab_gw 117 (by decide +kernel) rfl
theorem w_118 : (Jvm.Cond.fieldLink "DominoKing" (128 : Nat) "DominoKing$Table" "wind" "I") ∈ ab_GW := ab_gw 118 (by decide +kernel) rfl
theorem w_119 : (Jvm.Cond.fieldLink "DominoKing$Table" (70 : Nat) "DominoKing$Table" "day" "I") ∈ ab_GW := ab_gw 119 (by decide +kernel) rfl
theorem w_120 : (Jvm.Cond.fieldLink "DominoKing" (147 : Nat) "DominoKing$Table" "day" "I") ∈ ab_GW := ab_gw 120 (by decide +kernel) rfl
theorem w_121 : (Jvm.Cond.fieldLink "DominoKing$Table" (45 : Nat) "DominoKing$Table" "z" "I") ∈ ab_GW := ab_gw 121 (by decide +kernel) rfl
theorem w_122 : (Jvm.Cond.fieldLink "DominoKing" (140 : Nat) "DominoKing$Table" "z" "I") ∈ ab_GW := ab_gw 122 (by decide +kernel) rfl
theorem w_154 : (Jvm.Cond.arrayClass Jvm.ClassFile.FieldType.int) ∈ ab_GW := ab_gw 154 (by decide +kernel) rfl
theorem w_155 : (Jvm.Cond.classLink "DominoKing" (19 : Nat) "DominoKing$Thoughts") ∈ ab_GW := ab_gw 155 (by decide +kernel) rfl
theorem w_156 : (Jvm.Cond.instantiable "DominoKing$Thoughts" (3 : Nat)) ∈ ab_GW := ab_gw 156 (by decide +kernel) rfl
theorem w_158 : (Jvm.Cond.instanceMethod ({ cls := "DominoKing$Thoughts", name := "<init>", desc := "()V" } : Jvm.MethodName)) ∈ ab_GW := ab_gw 158 (by decide +kernel) rfl
theorem w_159 : (Jvm.Cond.code ({ cls := "DominoKing$Thoughts", name := "<init>", desc := "()V" } : Jvm.MethodName) prog_9_method_1_code (1 : Nat) (Option.none : Option Jvm.ClassFile.FieldType)) ∈ ab_GW := ab_gw 159 (by decide +kernel) rfl
theorem w_160 : (Jvm.Cond.methodLink "DominoKing$Thoughts" (3 : Nat) ({ cls := "java/lang/Object", name := "<init>", desc := "()V" } : Jvm.MethodName)) ∈ ab_GW := ab_gw 160 (by decide +kernel) rfl
theorem w_161 : (Jvm.Cond.classLink "DominoKing$Thoughts" (9 : Nat) "DominoKing$Table") ∈ ab_GW := ab_gw 161 (by decide +kernel) rfl
theorem w_162 : (Jvm.Cond.methodLink "DominoKing$Thoughts" (11 : Nat) ({ cls := "DominoKing$Table", name := "<init>", desc := "()V" } : Jvm.MethodName)) ∈ ab_GW := ab_gw 162 (by decide +kernel) rfl
theorem w_163 : (Jvm.Cond.fieldLink "DominoKing$Thoughts" (12 : Nat) "DominoKing$Thoughts" "then" "LDominoKing$Table;") ∈ ab_GW := ab_gw 163 (by decide +kernel) rfl
theorem w_164 : (Jvm.Cond.fieldLink "DominoKing$Thoughts" (18 : Nat) "DominoKing$Thoughts" "ways" "[I") ∈ ab_GW := ab_gw 164 (by decide +kernel) rfl
theorem w_165 : (Jvm.Cond.fieldLink "DominoKing$Thoughts" (22 : Nat) "DominoKing$Thoughts" "offs" "[I") ∈ ab_GW := ab_gw 165 (by decide +kernel) rfl
theorem w_173 : (Jvm.Cond.classLink "DominoKing" (26 : Nat) "DominoKing$Tape") ∈ ab_GW := ab_gw 173 (by decide +kernel) rfl
theorem w_174 : (Jvm.Cond.instantiable "DominoKing$Tape" (2 : Nat)) ∈ ab_GW := ab_gw 174 (by decide +kernel) rfl
theorem w_176 : (Jvm.Cond.instanceMethod ({ cls := "DominoKing$Tape", name := "<init>", desc := "()V" } : Jvm.MethodName)) ∈ ab_GW := ab_gw 176 (by decide +kernel) rfl
theorem w_177 : (Jvm.Cond.code ({ cls := "DominoKing$Tape", name := "<init>", desc := "()V" } : Jvm.MethodName) prog_7_method_1_code (1 : Nat) (Option.none : Option Jvm.ClassFile.FieldType)) ∈ ab_GW := ab_gw 177 (by decide +kernel) rfl
theorem w_178 : (Jvm.Cond.methodLink "DominoKing$Tape" (3 : Nat) ({ cls := "java/lang/Object", name := "<init>", desc := "()V" } : Jvm.MethodName)) ∈ ab_GW := ab_gw 178 (by decide +kernel) rfl
theorem w_179 : (Jvm.Cond.fieldLink "DominoKing$Tape" (9 : Nat) "DominoKing$Tape" "bytes" "[I") ∈ ab_GW := ab_gw 179 (by decide +kernel) rfl
theorem w_180 : (Jvm.Cond.fieldLink "DominoKing$Reader" (92 : Nat) "DominoKing$Tape" "bytes" "[I") ∈ ab_GW := ab_gw 180 (by decide +kernel) rfl
theorem w_181 : (Jvm.Cond.fieldLink "DominoKing$Tape" (15 : Nat) "DominoKing$Tape" "size" "I") ∈ ab_GW := ab_gw 181 (by decide +kernel) rfl
theorem w_182 : (Jvm.Cond.fieldLink "DominoKing$Reader" (101 : Nat) "DominoKing$Tape" "size" "I") ∈ ab_GW := ab_gw 182 (by decide +kernel) rfl
theorem w_183 : (Jvm.Cond.fieldLink "DominoKing" (211 : Nat) "DominoKing$Tape" "size" "I") ∈ ab_GW := ab_gw 183 (by decide +kernel) rfl
theorem w_189 : (Jvm.Cond.classLink "DominoKing" (33 : Nat) "DominoKing$Reader") ∈ ab_GW := ab_gw 189 (by decide +kernel) rfl
theorem w_190 : (Jvm.Cond.instantiable "DominoKing$Reader" (11 : Nat)) ∈ ab_GW := ab_gw 190 (by decide +kernel) rfl
theorem w_191 : (Jvm.Cond.methodLink "DominoKing" (35 : Nat) ({ cls := "DominoKing$Reader", name := "<init>", desc := "(LDominoKing$Tape;)V" } : Jvm.MethodName)) ∈ ab_GW := ab_gw 191 (by decide +kernel) rfl
theorem w_192 : (Jvm.Cond.instanceMethod ({ cls := "DominoKing$Reader", name := "<init>", desc := "(LDominoKing$Tape;)V" } : Jvm.MethodName)) ∈ ab_GW := ab_gw 192 (by decide +kernel) rfl
theorem w_193 : (Jvm.Cond.code ({ cls := "DominoKing$Reader", name := "<init>", desc := "(LDominoKing$Tape;)V" } : Jvm.MethodName) prog_3_method_1_code (2 : Nat) (Option.none : Option Jvm.ClassFile.FieldType)) ∈ ab_GW := ab_gw 193 (by decide +kernel) rfl
theorem w_194 : (Jvm.Cond.methodLink "DominoKing$Reader" (3 : Nat) ({ cls := "java/lang/Object", name := "<init>", desc := "()V" } : Jvm.MethodName)) ∈ ab_GW := ab_gw 194 (by decide +kernel) rfl
theorem w_196 : (Jvm.Cond.fieldLink "DominoKing$Reader" (39 : Nat) "DominoKing$Reader" "fault" "I") ∈ ab_GW := ab_gw 196 (by decide +kernel) rfl
theorem w_197 : (Jvm.Cond.fieldLink "DominoKing" (221 : Nat) "DominoKing$Reader" "fault" "I") ∈ ab_GW := ab_gw 197 (by decide +kernel) rfl
theorem w_198 : (Jvm.Cond.fieldLink "DominoKing$Reader" (24 : Nat) "DominoKing$Reader" "tape" "LDominoKing$Tape;") ∈ ab_GW := ab_gw 198 (by decide +kernel) rfl
theorem w_199 : (Jvm.Cond.fieldLink "DominoKing$Reader" (9 : Nat) "DominoKing$Reader" "signs" "[I") ∈ ab_GW := ab_gw 199 (by decide +kernel) rfl
theorem w_200 : (Jvm.Cond.fieldLink "DominoKing$Reader" (15 : Nat) "DominoKing$Reader" "values" "[I") ∈ ab_GW := ab_gw 200 (by decide +kernel) rfl
theorem w_201 : (Jvm.Cond.fieldLink "DominoKing$Reader" (63 : Nat) "DominoKing$Reader" "length" "I") ∈ ab_GW := ab_gw 201 (by decide +kernel) rfl
theorem w_202 : (Jvm.Cond.fieldLink "DominoKing$Reader" (60 : Nat) "DominoKing$Reader" "operands" "I") ∈ ab_GW := ab_gw 202 (by decide +kernel) rfl
theorem w_203 : (Jvm.Cond.fieldLink "DominoKing$Reader" (20 : Nat) "DominoKing$Reader" "names" "Ljava/lang/String;") ∈ ab_GW := ab_gw 203 (by decide +kernel) rfl
theorem w_204 : (Jvm.Cond.fieldLink "DominoKing$Reader" (55 : Nat) "DominoKing$Reader" "sort" "I") ∈ ab_GW := ab_gw 204 (by decide +kernel) rfl
theorem w_205 : (Jvm.Cond.fieldLink "DominoKing$Reader" (35 : Nat) "DominoKing$Reader" "start" "I") ∈ ab_GW := ab_gw 205 (by decide +kernel) rfl
theorem w_206 : (Jvm.Cond.fieldLink "DominoKing$Reader" (75 : Nat) "DominoKing$Reader" "stop" "I") ∈ ab_GW := ab_gw 206 (by decide +kernel) rfl
theorem w_207 : (Jvm.Cond.fieldLink "DominoKing$Reader" (108 : Nat) "DominoKing$Reader" "lacksBlank" "Z") ∈ ab_GW := ab_gw 207 (by decide +kernel) rfl
theorem w_231 : (Jvm.Cond.arrayClass Jvm.ClassFile.FieldType.byte) ∈ ab_GW := ab_gw 231 (by decide +kernel) rfl
theorem w_232 : (Jvm.Cond.classLink "DominoKing" (42 : Nat) "DominoKing$Sheet") ∈ ab_GW := ab_gw 232 (by decide +kernel) rfl
theorem w_234 : (Jvm.Cond.classLink "DominoKing" (48 : Nat) "DominoKing$Slot") ∈ ab_GW := ab_gw 234 (by decide +kernel) rfl
theorem w_236 : (Jvm.Cond.instantiable "DominoKing$Sheet" (3 : Nat)) ∈ ab_GW := ab_gw 236 (by decide +kernel) rfl
theorem w_238 : (Jvm.Cond.instanceMethod ({ cls := "DominoKing$Sheet", name := "<init>", desc := "()V" } : Jvm.MethodName)) ∈ ab_GW := ab_gw 238 (by decide +kernel) rfl
theorem w_239 : (Jvm.Cond.code ({ cls := "DominoKing$Sheet", name := "<init>", desc := "()V" } : Jvm.MethodName) prog_4_method_1_code (1 : Nat) (Option.none : Option Jvm.ClassFile.FieldType)) ∈ ab_GW := ab_gw 239 (by decide +kernel) rfl
theorem w_240 : (Jvm.Cond.methodLink "DominoKing$Sheet" (3 : Nat) ({ cls := "java/lang/Object", name := "<init>", desc := "()V" } : Jvm.MethodName)) ∈ ab_GW := ab_gw 240 (by decide +kernel) rfl
theorem w_241 : (Jvm.Cond.fieldLink "DominoKing$Sheet" (9 : Nat) "DominoKing$Sheet" "row" "[I") ∈ ab_GW := ab_gw 241 (by decide +kernel) rfl
theorem w_242 : (Jvm.Cond.fieldLink "DominoKing$Table" (179 : Nat) "DominoKing$Sheet" "row" "[I") ∈ ab_GW := ab_gw 242 (by decide +kernel) rfl
theorem w_243 : (Jvm.Cond.fieldLink "DominoKing" (260 : Nat) "DominoKing$Sheet" "row" "[I") ∈ ab_GW := ab_gw 243 (by decide +kernel) rfl
theorem w_244 : (Jvm.Cond.fieldLink "DominoKing$Sheet" (15 : Nat) "DominoKing$Sheet" "sort" "I") ∈ ab_GW := ab_gw 244 (by decide +kernel) rfl
theorem w_245 : (Jvm.Cond.fieldLink "DominoKing" (249 : Nat) "DominoKing$Sheet" "sort" "I") ∈ ab_GW := ab_gw 245 (by decide +kernel) rfl
theorem w_246 : (Jvm.Cond.fieldLink "DominoKing$Sheet" (19 : Nat) "DominoKing$Sheet" "size" "I") ∈ ab_GW := ab_gw 246 (by decide +kernel) rfl
theorem w_247 : (Jvm.Cond.fieldLink "DominoKing" (247 : Nat) "DominoKing$Sheet" "size" "I") ∈ ab_GW := ab_gw 247 (by decide +kernel) rfl
theorem w_255 : (Jvm.Cond.instantiable "DominoKing$Slot" (6 : Nat)) ∈ ab_GW := ab_gw 255 (by decide +kernel) rfl
theorem w_257 : (Jvm.Cond.instanceMethod ({ cls := "DominoKing$Slot", name := "<init>", desc := "()V" } : Jvm.MethodName)) ∈ ab_GW := ab_gw 257 (by decide +kernel) rfl
theorem w_258 : (Jvm.Cond.code ({ cls := "DominoKing$Slot", name := "<init>", desc := "()V" } : Jvm.MethodName) prog_5_method_1_code (1 : Nat) (Option.none : Option Jvm.ClassFile.FieldType)) ∈ ab_GW := ab_gw 258 (by decide +kernel) rfl
theorem w_259 : (Jvm.Cond.methodLink "DominoKing$Slot" (1 : Nat) ({ cls := "java/lang/Object", name := "<init>", desc := "()V" } : Jvm.MethodName)) ∈ ab_GW := ab_gw 259 (by decide +kernel) rfl
theorem w_260 : (Jvm.Cond.classLink "DominoKing$Slot" (7 : Nat) "DominoKing$Sheet") ∈ ab_GW := ab_gw 260 (by decide +kernel) rfl
theorem w_262 : (Jvm.Cond.fieldLink "DominoKing$Slot" (10 : Nat) "DominoKing$Slot" "sheet" "LDominoKing$Sheet;") ∈ ab_GW := ab_gw 262 (by decide +kernel) rfl
theorem w_263 : (Jvm.Cond.fieldLink "DominoKing" (285 : Nat) "DominoKing$Slot" "sheet" "LDominoKing$Sheet;") ∈ ab_GW := ab_gw 263 (by decide +kernel) rfl
theorem w_264 : (Jvm.Cond.fieldLink "DominoKing" (278 : Nat) "DominoKing$Slot" "thing" "I") ∈ ab_GW := ab_gw 264 (by decide +kernel) rfl
theorem w_265 : (Jvm.Cond.fieldLink "DominoKing$Slot" (16 : Nat) "DominoKing$Slot" "kind" "I") ∈ ab_GW := ab_gw 265 (by decide +kernel) rfl
theorem w_266 : (Jvm.Cond.fieldLink "DominoKing" (299 : Nat) "DominoKing$Slot" "kind" "I") ∈ ab_GW := ab_gw 266 (by decide +kernel) rfl
theorem w_267 : (Jvm.Cond.fieldLink "DominoKing$Slot" (20 : Nat) "DominoKing$Slot" "left" "I") ∈ ab_GW := ab_gw 267 (by decide +kernel) rfl
theorem w_268 : (Jvm.Cond.fieldLink "DominoKing" (302 : Nat) "DominoKing$Slot" "left" "I") ∈ ab_GW := ab_gw 268 (by decide +kernel) rfl
theorem w_269 : (Jvm.Cond.fieldLink "DominoKing$Slot" (23 : Nat) "DominoKing$Slot" "right" "I") ∈ ab_GW := ab_gw 269 (by decide +kernel) rfl
theorem w_270 : (Jvm.Cond.fieldLink "DominoKing" (305 : Nat) "DominoKing$Slot" "right" "I") ∈ ab_GW := ab_gw 270 (by decide +kernel) rfl
theorem w_271 : (Jvm.Cond.fieldLink "DominoKing" (293 : Nat) "DominoKing$Slot" "number" "I") ∈ ab_GW := ab_gw 271 (by decide +kernel) rfl
theorem w_285 : (Jvm.Cond.fieldLink "DominoKing" (10 : Nat) "DominoKing" "now" "LDominoKing$Table;") ∈ ab_GW := ab_gw 285 (by decide +kernel) rfl
theorem w_286 : (Jvm.Cond.fieldLink "DominoKing" (16 : Nat) "DominoKing" "image" "LDominoKing$Table;") ∈ ab_GW := ab_gw 286 (by decide +kernel) rfl
theorem w_287 : (Jvm.Cond.fieldLink "DominoKing" (22 : Nat) "DominoKing" "thoughts" "LDominoKing$Thoughts;") ∈ ab_GW := ab_gw 287 (by decide +kernel) rfl
theorem w_288 : (Jvm.Cond.fieldLink "DominoKing" (29 : Nat) "DominoKing" "tape" "LDominoKing$Tape;") ∈ ab_GW := ab_gw 288 (by decide +kernel) rfl
theorem w_289 : (Jvm.Cond.fieldLink "DominoKing" (38 : Nat) "DominoKing" "reader" "LDominoKing$Reader;") ∈ ab_GW := ab_gw 289 (by decide +kernel) rfl
theorem w_290 : (Jvm.Cond.fieldLink "DominoKing" (44 : Nat) "DominoKing" "sheets" "[LDominoKing$Sheet;") ∈ ab_GW := ab_gw 290 (by decide +kernel) rfl
theorem w_291 : (Jvm.Cond.fieldLink "DominoKing" (50 : Nat) "DominoKing" "slots" "[LDominoKing$Slot;") ∈ ab_GW := ab_gw 291 (by decide +kernel) rfl
theorem w_292 : (Jvm.Cond.fieldLink "DominoKing" (54 : Nat) "DominoKing" "waiting" "[I") ∈ ab_GW := ab_gw 292 (by decide +kernel) rfl
theorem w_293 : (Jvm.Cond.fieldLink "DominoKing" (308 : Nat) "DominoKing" "waits" "I") ∈ ab_GW := ab_gw 293 (by decide +kernel) rfl
theorem w_294 : (Jvm.Cond.fieldLink "DominoKing" (311 : Nat) "DominoKing" "kept" "Z") ∈ ab_GW := ab_gw 294 (by decide +kernel) rfl
theorem w_316 : (Jvm.Cond.methodLink "DominoKingLaw" (13 : Nat) ({ cls := "DominoKing", name := "stone", desc := "(III)I" } : Jvm.MethodName)) ∈ ab_GW := ab_gw 316 (by decide +kernel) rfl
theorem w_317 : (Jvm.Cond.instanceMethod ({ cls := "DominoKing", name := "stone", desc := "(III)I" } : Jvm.MethodName)) ∈ ab_GW := ab_gw 317 (by decide +kernel) rfl
theorem w_318 : (Jvm.Cond.selects "DominoKing" ({ cls := "DominoKing", name := "stone", desc := "(III)I" } : Jvm.MethodName) ({ cls := "DominoKing", name := "stone", desc := "(III)I" } : Jvm.MethodName)) ∈ ab_GW := ab_gw 318 (by decide +kernel) rfl
theorem w_319 : (Jvm.Cond.code ({ cls := "DominoKing", name := "stone", desc := "(III)I" } : Jvm.MethodName) prog_1_method_2_code (4 : Nat) (Option.some Jvm.ClassFile.FieldType.int)) ∈ ab_GW := ab_gw 319 (by decide +kernel) rfl
theorem w_320 : (Jvm.Cond.methodLink "DominoKing" (60 : Nat) ({ cls := "DominoKing", name := "within", desc := "(III)Z" } : Jvm.MethodName)) ∈ ab_GW := ab_gw 320 (by decide +kernel) rfl
theorem w_321 : (Jvm.Cond.static ({ cls := "DominoKing", name := "within", desc := "(III)Z" } : Jvm.MethodName)) ∈ ab_GW := ab_gw 321 (by decide +kernel) rfl
theorem w_322 : (Jvm.Cond.code ({ cls := "DominoKing", name := "within", desc := "(III)Z" } : Jvm.MethodName) prog_1_method_50_code (3 : Nat) (Option.some Jvm.ClassFile.FieldType.boolean)) ∈ ab_GW := ab_gw 322 (by decide +kernel) rfl
theorem w_323 : (Jvm.Cond.constant "DominoKing" (64 : Nat) (-1000000001 : Int32)) ∈ ab_GW := ab_gw 323 (by decide +kernel) rfl
theorem w_324 : (Jvm.Cond.constant "DominoKing" (69 : Nat) (-1000000003 : Int32)) ∈ ab_GW := ab_gw 324 (by decide +kernel) rfl
theorem w_325 : (Jvm.Cond.methodLink "DominoKing" (70 : Nat) ({ cls := "DominoKing$Table", name := "addStone", desc := "(III)I" } : Jvm.MethodName)) ∈ ab_GW := ab_gw 325 (by decide +kernel) rfl
theorem w_326 : (Jvm.Cond.instanceMethod ({ cls := "DominoKing$Table", name := "addStone", desc := "(III)I" } : Jvm.MethodName)) ∈ ab_GW := ab_gw 326 (by decide +kernel) rfl
theorem w_327 : (Jvm.Cond.selects "DominoKing$Table" ({ cls := "DominoKing$Table", name := "addStone", desc := "(III)I" } : Jvm.MethodName) ({ cls := "DominoKing$Table", name := "addStone", desc := "(III)I" } : Jvm.MethodName)) ∈ ab_GW := ab_gw 327 (by decide +kernel) rfl
theorem w_328 : (Jvm.Cond.code ({ cls := "DominoKing$Table", name := "addStone", desc := "(III)I" } : Jvm.MethodName) prog_6_method_3_code (5 : Nat) (Option.some Jvm.ClassFile.FieldType.int)) ∈ ab_GW := ab_gw 328 (by decide +kernel) rfl
theorem w_329 : (Jvm.Cond.methodLink "DominoKing$Table" (73 : Nat) ({ cls := "DominoKing$Table", name := "darken", desc := "(I)V" } : Jvm.MethodName)) ∈ ab_GW := ab_gw 329 (by decide +kernel) rfl
theorem w_330 : (Jvm.Cond.instanceMethod ({ cls := "DominoKing$Table", name := "darken", desc := "(I)V" } : Jvm.MethodName)) ∈ ab_GW := ab_gw 330 (by decide +kernel) rfl
theorem w_331 : (Jvm.Cond.selects "DominoKing$Table" ({ cls := "DominoKing$Table", name := "darken", desc := "(I)V" } : Jvm.MethodName) ({ cls := "DominoKing$Table", name := "darken", desc := "(I)V" } : Jvm.MethodName)) ∈ ab_GW := ab_gw 331 (by decide +kernel) rfl
theorem w_332 : (Jvm.Cond.code ({ cls := "DominoKing$Table", name := "darken", desc := "(I)V" } : Jvm.MethodName) prog_6_method_9_code (5 : Nat) (Option.none : Option Jvm.ClassFile.FieldType)) ∈ ab_GW := ab_gw 332 (by decide +kernel) rfl
theorem w_333 : (Jvm.Cond.methodLink "DominoKing$Table" (97 : Nat) ({ cls := "DominoKing$Table", name := "law", desc := "(I)LDominoKing$Text;" } : Jvm.MethodName)) ∈ ab_GW := ab_gw 333 (by decide +kernel) rfl
theorem w_334 : (Jvm.Cond.instanceMethod ({ cls := "DominoKing$Table", name := "law", desc := "(I)LDominoKing$Text;" } : Jvm.MethodName)) ∈ ab_GW := ab_gw 334 (by decide +kernel) rfl
theorem w_335 : (Jvm.Cond.selects "DominoKing$Table" ({ cls := "DominoKing$Table", name := "law", desc := "(I)LDominoKing$Text;" } : Jvm.MethodName) ({ cls := "DominoKing$Table", name := "law", desc := "(I)LDominoKing$Text;" } : Jvm.MethodName)) ∈ ab_GW := ab_gw 335 (by decide +kernel) rfl
theorem w_336 : (Jvm.Cond.code ({ cls := "DominoKing$Table", name := "law", desc := "(I)LDominoKing$Text;" } : Jvm.MethodName) prog_6_method_7_code (2 : Nat) (Option.some (Jvm.ClassFile.FieldType.object "DominoKing$Text"))) ∈ ab_GW := ab_gw 336 (by decide +kernel) rfl
theorem w_337 : (Jvm.Cond.methodLink "DominoKing$Table" (90 : Nat) ({ cls := "DominoKing$Table", name := "textAt", desc := "(I)LDominoKing$Text;" } : Jvm.MethodName)) ∈ ab_GW := ab_gw 337 (by decide +kernel) rfl
theorem w_338 : (Jvm.Cond.instanceMethod ({ cls := "DominoKing$Table", name := "textAt", desc := "(I)LDominoKing$Text;" } : Jvm.MethodName)) ∈ ab_GW := ab_gw 338 (by decide +kernel) rfl
theorem w_339 : (Jvm.Cond.selects "DominoKing$Table" ({ cls := "DominoKing$Table", name := "textAt", desc := "(I)LDominoKing$Text;" } : Jvm.MethodName) ({ cls := "DominoKing$Table", name := "textAt", desc := "(I)LDominoKing$Text;" } : Jvm.MethodName)) ∈ ab_GW := ab_gw 339 (by decide +kernel) rfl
theorem w_340 : (Jvm.Cond.code ({ cls := "DominoKing$Table", name := "textAt", desc := "(I)LDominoKing$Text;" } : Jvm.MethodName) prog_6_method_6_code (2 : Nat) (Option.some (Jvm.ClassFile.FieldType.object "DominoKing$Text"))) ∈ ab_GW := ab_gw 340 (by decide +kernel) rfl
theorem w_342 : (Jvm.Cond.methodLink "DominoKing$Table" (100 : Nat) ({ cls := "DominoKing$Table", name := "heavy", desc := "(I)I" } : Jvm.MethodName)) ∈ ab_GW := ab_gw 342 (by decide +kernel) rfl
theorem w_343 : (Jvm.Cond.instanceMethod ({ cls := "DominoKing$Table", name := "heavy", desc := "(I)I" } : Jvm.MethodName)) ∈ ab_GW := ab_gw 343 (by decide +kernel) rfl
theorem w_344 : (Jvm.Cond.selects "DominoKing$Table" ({ cls := "DominoKing$Table", name := "heavy", desc := "(I)I" } : Jvm.MethodName) ({ cls := "DominoKing$Table", name := "heavy", desc := "(I)I" } : Jvm.MethodName)) ∈ ab_GW := ab_gw 344 (by decide +kernel) rfl
theorem w_345 : (Jvm.Cond.code ({ cls := "DominoKing$Table", name := "heavy", desc := "(I)I" } : Jvm.MethodName) prog_6_method_12_code (2 : Nat) (Option.some Jvm.ClassFile.FieldType.int)) ∈ ab_GW := ab_gw 345 (by decide +kernel) rfl
theorem w_346 : (Jvm.Cond.methodLink "DominoKing$Table" (123 : Nat) ({ cls := "DominoKing$Kinds", name := "heavy", desc := "(III)I" } : Jvm.MethodName)) ∈ ab_GW := ab_gw 346 (by decide +kernel) rfl
theorem w_347 : (Jvm.Cond.static ({ cls := "DominoKing$Kinds", name := "heavy", desc := "(III)I" } : Jvm.MethodName)) ∈ ab_GW := ab_gw 347 (by decide +kernel) rfl
theorem w_348 : (Jvm.Cond.code ({ cls := "DominoKing$Kinds", name := "heavy", desc := "(III)I" } : Jvm.MethodName) prog_2_method_4_code (4 : Nat) (Option.some Jvm.ClassFile.FieldType.int)) ∈ ab_GW := ab_gw 348 (by decide +kernel) rfl
theorem w_349 : (Jvm.Cond.methodLink "DominoKing$Table" (104 : Nat) ({ cls := "DominoKing$Table", name := "darkAt", desc := "(III)I" } : Jvm.MethodName)) ∈ ab_GW := ab_gw 349 (by decide +kernel) rfl
theorem w_350 : (Jvm.Cond.static ({ cls := "DominoKing$Table", name := "darkAt", desc := "(III)I" } : Jvm.MethodName)) ∈ ab_GW := ab_gw 350 (by decide +kernel) rfl
theorem w_351 : (Jvm.Cond.code ({ cls := "DominoKing$Table", name := "darkAt", desc := "(III)I" } : Jvm.MethodName) prog_6_method_11_code (3 : Nat) (Option.some Jvm.ClassFile.FieldType.int)) ∈ ab_GW := ab_gw 351 (by decide +kernel) rfl
theorem w_352 : (Jvm.Cond.methodLink "DominoKing$Table" (107 : Nat) ({ cls := "DominoKing$Table", name := "darkOf", desc := "(LDominoKing$Text;IIII)I" } : Jvm.MethodName)) ∈ ab_GW := ab_gw 352 (by decide +kernel) rfl
theorem w_353 : (Jvm.Cond.static ({ cls := "DominoKing$Table", name := "darkOf", desc := "(LDominoKing$Text;IIII)I" } : Jvm.MethodName)) ∈ ab_GW := ab_gw 353 (by decide +kernel) rfl
theorem w_354 : (Jvm.Cond.code ({ cls := "DominoKing$Table", name := "darkOf", desc := "(LDominoKing$Text;IIII)I" } : Jvm.MethodName) prog_6_method_10_code (6 : Nat) (Option.some Jvm.ClassFile.FieldType.int)) ∈ ab_GW := ab_gw 354 (by decide +kernel) rfl
theorem w_355 : (Jvm.Cond.methodLink "DominoKing$Table" (111 : Nat) ({ cls := "DominoKing$Text", name := "gives", desc := "(III)I" } : Jvm.MethodName)) ∈ ab_GW := ab_gw 355 (by decide +kernel) rfl
theorem w_356 : (Jvm.Cond.instanceMethod ({ cls := "DominoKing$Text", name := "gives", desc := "(III)I" } : Jvm.MethodName)) ∈ ab_GW := ab_gw 356 (by decide +kernel) rfl
theorem w_357 : (Jvm.Cond.selects "DominoKing$Text" ({ cls := "DominoKing$Text", name := "gives", desc := "(III)I" } : Jvm.MethodName) ({ cls := "DominoKing$Text", name := "gives", desc := "(III)I" } : Jvm.MethodName)) ∈ ab_GW := ab_gw 357 (by decide +kernel) rfl
theorem w_358 : (Jvm.Cond.code ({ cls := "DominoKing$Text", name := "gives", desc := "(III)I" } : Jvm.MethodName) prog_8_method_2_code (6 : Nat) (Option.some Jvm.ClassFile.FieldType.int)) ∈ ab_GW := ab_gw 358 (by decide +kernel) rfl
theorem w_359 : (Jvm.Cond.methodLink "DominoKing$Text" (26 : Nat) ({ cls := "DominoKing$Text", name := "named", desc := "(IIII)I" } : Jvm.MethodName)) ∈ ab_GW := ab_gw 359 (by decide +kernel) rfl
theorem w_360 : (Jvm.Cond.static ({ cls := "DominoKing$Text", name := "named", desc := "(IIII)I" } : Jvm.MethodName)) ∈ ab_GW := ab_gw 360 (by decide +kernel) rfl
theorem w_361 : (Jvm.Cond.code ({ cls := "DominoKing$Text", name := "named", desc := "(IIII)I" } : Jvm.MethodName) prog_8_method_3_code (4 : Nat) (Option.some Jvm.ClassFile.FieldType.int)) ∈ ab_GW := ab_gw 361 (by decide +kernel) rfl
theorem w_362 : (Jvm.Cond.methodLink "DominoKing$Text" (30 : Nat) ({ cls := "DominoKing$Text", name := "truth", desc := "(Z)I" } : Jvm.MethodName)) ∈ ab_GW := ab_gw 362 (by decide +kernel) rfl
theorem w_363 : (Jvm.Cond.static ({ cls := "DominoKing$Text", name := "truth", desc := "(Z)I" } : Jvm.MethodName)) ∈ ab_GW := ab_gw 363 (by decide +kernel) rfl
theorem w_364 : (Jvm.Cond.code ({ cls := "DominoKing$Text", name := "truth", desc := "(Z)I" } : Jvm.MethodName) prog_8_method_5_code (1 : Nat) (Option.some Jvm.ClassFile.FieldType.int)) ∈ ab_GW := ab_gw 364 (by decide +kernel) rfl
theorem w_365 : (Jvm.Cond.methodLink "DominoKing$Text" (34 : Nat) ({ cls := "DominoKing$Text", name := "joined", desc := "(III)I" } : Jvm.MethodName)) ∈ ab_GW := ab_gw 365 (by decide +kernel) rfl
theorem w_366 : (Jvm.Cond.static ({ cls := "DominoKing$Text", name := "joined", desc := "(III)I" } : Jvm.MethodName)) ∈ ab_GW := ab_gw 366 (by decide +kernel) rfl
theorem w_367 : (Jvm.Cond.code ({ cls := "DominoKing$Text", name := "joined", desc := "(III)I" } : Jvm.MethodName) prog_8_method_4_code (3 : Nat) (Option.some Jvm.ClassFile.FieldType.int)) ∈ ab_GW := ab_gw 367 (by decide +kernel) rfl
theorem w_369 : (Jvm.Cond.static ({ cls := "DominoKing", name := "clamp", desc := "(III)I" } : Jvm.MethodName)) ∈ ab_GW := ab_gw 369 (by decide +kernel) rfl
theorem w_370 : (Jvm.Cond.code ({ cls := "DominoKing", name := "clamp", desc := "(III)I" } : Jvm.MethodName) prog_1_method_51_code (3 : Nat) (Option.some Jvm.ClassFile.FieldType.int)) ∈ ab_GW := ab_gw 370 (by decide +kernel) rfl
theorem w_371 : (Jvm.Cond.methodLink "DominoKing" (131 : Nat) ({ cls := "java/lang/Math", name := "min", desc := "(II)I" } : Jvm.MethodName)) ∈ ab_GW := ab_gw 371 (by decide +kernel) rfl
theorem w_372 : (Jvm.Cond.static ({ cls := "java/lang/Math", name := "min", desc := "(II)I" } : Jvm.MethodName)) ∈ ab_GW := ab_gw 372 (by decide +kernel) rfl
theorem w_373 : (Jvm.Cond.code ({ cls := "java/lang/Math", name := "min", desc := "(II)I" } : Jvm.MethodName) prog_15_method_69_code (2 : Nat) (Option.some Jvm.ClassFile.FieldType.int)) ∈ ab_GW := ab_gw 373 (by decide +kernel) rfl
theorem w_374 : (Jvm.Cond.methodLink "DominoKing" (322 : Nat) ({ cls := "java/lang/Math", name := "max", desc := "(II)I" } : Jvm.MethodName)) ∈ ab_GW := ab_gw 374 (by decide +kernel) rfl
theorem w_375 : (Jvm.Cond.static ({ cls := "java/lang/Math", name := "max", desc := "(II)I" } : Jvm.MethodName)) ∈ ab_GW := ab_gw 375 (by decide +kernel) rfl
theorem w_376 : (Jvm.Cond.code ({ cls := "java/lang/Math", name := "max", desc := "(II)I" } : Jvm.MethodName) prog_15_method_65_code (2 : Nat) (Option.some Jvm.ClassFile.FieldType.int)) ∈ ab_GW := ab_gw 376 (by decide +kernel) rfl
theorem w_377 : (Jvm.Cond.methodLink "DominoKing$Table" (117 : Nat) ({ cls := "DominoKing$Kinds", name := "dark", desc := "(II)I" } : Jvm.MethodName)) ∈ ab_GW := ab_gw 377 (by decide +kernel) rfl
theorem w_378 : (Jvm.Cond.static ({ cls := "DominoKing$Kinds", name := "dark", desc := "(II)I" } : Jvm.MethodName)) ∈ ab_GW := ab_gw 378 (by decide +kernel) rfl
theorem w_379 : (Jvm.Cond.code ({ cls := "DominoKing$Kinds", name := "dark", desc := "(II)I" } : Jvm.MethodName) prog_2_method_3_code (4 : Nat) (Option.some Jvm.ClassFile.FieldType.int)) ∈ ab_GW := ab_gw 379 (by decide +kernel) rfl
theorem w_380 : (Jvm.Cond.methodLink "DominoKing$Kinds" (13 : Nat) ({ cls := "java/lang/Math", name := "max", desc := "(II)I" } : Jvm.MethodName)) ∈ ab_GW := ab_gw 380 (by decide +kernel) rfl
theorem w_381 : (Jvm.Cond.methodLink "DominoKing$Kinds" (19 : Nat) ({ cls := "java/lang/Math", name := "min", desc := "(II)I" } : Jvm.MethodName)) ∈ ab_GW := ab_gw 381 (by decide +kernel) rfl
theorem w_382 : (Jvm.Cond.methodLink "DominoKingLaw" (18 : Nat) ({ cls := "DominoKing", name := "told", desc := "(II)I" } : Jvm.MethodName)) ∈ ab_GW := ab_gw 382 (by decide +kernel) rfl
theorem w_383 : (Jvm.Cond.instanceMethod ({ cls := "DominoKing", name := "told", desc := "(II)I" } : Jvm.MethodName)) ∈ ab_GW := ab_gw 383 (by decide +kernel) rfl
theorem w_384 : (Jvm.Cond.selects "DominoKing" ({ cls := "DominoKing", name := "told", desc := "(II)I" } : Jvm.MethodName) ({ cls := "DominoKing", name := "told", desc := "(II)I" } : Jvm.MethodName)) ∈ ab_GW := ab_gw 384 (by decide +kernel) rfl
theorem w_385 : (Jvm.Cond.code ({ cls := "DominoKing", name := "told", desc := "(II)I" } : Jvm.MethodName) prog_1_method_3_code (3 : Nat) (Option.some Jvm.ClassFile.FieldType.int)) ∈ ab_GW := ab_gw 385 (by decide +kernel) rfl
theorem w_386 : (Jvm.Cond.methodLink "DominoKing" (74 : Nat) ({ cls := "DominoKing", name := "isStone", desc := "(I)Z" } : Jvm.MethodName)) ∈ ab_GW := ab_gw 386 (by decide +kernel) rfl
theorem w_388 : (Jvm.Cond.instanceMethod ({ cls := "DominoKing", name := "isStone", desc := "(I)Z" } : Jvm.MethodName)) ∈ ab_GW := ab_gw 388 (by decide +kernel) rfl
theorem w_389 : (Jvm.Cond.code ({ cls := "DominoKing", name := "isStone", desc := "(I)Z" } : Jvm.MethodName) prog_1_method_46_code (2 : Nat) (Option.some Jvm.ClassFile.FieldType.boolean)) ∈ ab_GW := ab_gw 389 (by decide +kernel) rfl
theorem w_390 : (Jvm.Cond.methodLink "DominoKing" (93 : Nat) ({ cls := "DominoKing$Table", name := "heavy", desc := "(I)I" } : Jvm.MethodName)) ∈ ab_GW := ab_gw 390 (by decide +kernel) rfl
theorem w_391 : (Jvm.Cond.methodLink "DominoKing" (97 : Nat) ({ cls := "DominoKing$Kinds", name := "worth", desc := "(III)I" } : Jvm.MethodName)) ∈ ab_GW := ab_gw 391 (by decide +kernel) rfl
theorem w_392 : (Jvm.Cond.static ({ cls := "DominoKing$Kinds", name := "worth", desc := "(III)I" } : Jvm.MethodName)) ∈ ab_GW := ab_gw 392 (by decide +kernel) rfl
theorem w_393 : (Jvm.Cond.code ({ cls := "DominoKing$Kinds", name := "worth", desc := "(III)I" } : Jvm.MethodName) prog_2_method_5_code (4 : Nat) (Option.some Jvm.ClassFile.FieldType.int)) ∈ ab_GW := ab_gw 393 (by decide +kernel) rfl
theorem w_394 : (Jvm.Cond.methodLink "DominoKingLaw" (23 : Nat) ({ cls := "DominoKing", name := "off", desc := "(III)I" } : Jvm.MethodName)) ∈ ab_GW := ab_gw 394 (by decide +kernel) rfl
theorem w_395 : (Jvm.Cond.instanceMethod ({ cls := "DominoKing", name := "off", desc := "(III)I" } : Jvm.MethodName)) ∈ ab_GW := ab_gw 395 (by decide +kernel) rfl
theorem w_396 : (Jvm.Cond.selects "DominoKing" ({ cls := "DominoKing", name := "off", desc := "(III)I" } : Jvm.MethodName) ({ cls := "DominoKing", name := "off", desc := "(III)I" } : Jvm.MethodName)) ∈ ab_GW := ab_gw 396 (by decide +kernel) rfl
theorem w_397 : (Jvm.Cond.code ({ cls := "DominoKing", name := "off", desc := "(III)I" } : Jvm.MethodName) prog_1_method_4_code (4 : Nat) (Option.some Jvm.ClassFile.FieldType.int)) ∈ ab_GW := ab_gw 397 (by decide +kernel) rfl
theorem w_398 : (Jvm.Cond.methodLink "DominoKing" (102 : Nat) ({ cls := "DominoKing", name := "isPlace", desc := "(I)Z" } : Jvm.MethodName)) ∈ ab_GW := ab_gw 398 (by decide +kernel) rfl
theorem w_399 : (Jvm.Cond.static ({ cls := "DominoKing", name := "isPlace", desc := "(I)Z" } : Jvm.MethodName)) ∈ ab_GW := ab_gw 399 (by decide +kernel) rfl
theorem w_400 : (Jvm.Cond.code ({ cls := "DominoKing", name := "isPlace", desc := "(I)Z" } : Jvm.MethodName) prog_1_method_47_code (1 : Nat) (Option.some Jvm.ClassFile.FieldType.boolean)) ∈ ab_GW := ab_gw 400 (by decide +kernel) rfl
theorem w_401 : (Jvm.Cond.methodLink "DominoKing" (105 : Nat) ({ cls := "DominoKing$Table", name := "offAt", desc := "(III)I" } : Jvm.MethodName)) ∈ ab_GW := ab_gw 401 (by decide +kernel) rfl
theorem w_402 : (Jvm.Cond.instanceMethod ({ cls := "DominoKing$Table", name := "offAt", desc := "(III)I" } : Jvm.MethodName)) ∈ ab_GW := ab_gw 402 (by decide +kernel) rfl
theorem w_403 : (Jvm.Cond.selects "DominoKing$Table" ({ cls := "DominoKing$Table", name := "offAt", desc := "(III)I" } : Jvm.MethodName) ({ cls := "DominoKing$Table", name := "offAt", desc := "(III)I" } : Jvm.MethodName)) ∈ ab_GW := ab_gw 403 (by decide +kernel) rfl
theorem w_404 : (Jvm.Cond.code ({ cls := "DominoKing$Table", name := "offAt", desc := "(III)I" } : Jvm.MethodName) prog_6_method_14_code (7 : Nat) (Option.some Jvm.ClassFile.FieldType.int)) ∈ ab_GW := ab_gw 404 (by decide +kernel) rfl
theorem w_405 : (Jvm.Cond.methodLink "DominoKing$Table" (125 : Nat) ({ cls := "java/lang/Math", name := "abs", desc := "(I)I" } : Jvm.MethodName)) ∈ ab_GW := ab_gw 405 (by decide +kernel) rfl
theorem w_406 : (Jvm.Cond.static ({ cls := "java/lang/Math", name := "abs", desc := "(I)I" } : Jvm.MethodName)) ∈ ab_GW := ab_gw 406 (by decide +kernel) rfl
theorem w_407 : (Jvm.Cond.code ({ cls := "java/lang/Math", name := "abs", desc := "(I)I" } : Jvm.MethodName) prog_15_method_59_code (1 : Nat) (Option.some Jvm.ClassFile.FieldType.int)) ∈ ab_GW := ab_gw 407 (by decide +kernel) rfl
theorem w_408 : (Jvm.Cond.methodLink "DominoKingLaw" (27 : Nat) ({ cls := "DominoKing", name := "as", desc := "(II)I" } : Jvm.MethodName)) ∈ ab_GW := ab_gw 408 (by decide +kernel) rfl
theorem w_409 : (Jvm.Cond.instanceMethod ({ cls := "DominoKing", name := "as", desc := "(II)I" } : Jvm.MethodName)) ∈ ab_GW := ab_gw 409 (by decide +kernel) rfl
theorem w_410 : (Jvm.Cond.selects "DominoKing" ({ cls := "DominoKing", name := "as", desc := "(II)I" } : Jvm.MethodName) ({ cls := "DominoKing", name := "as", desc := "(II)I" } : Jvm.MethodName)) ∈ ab_GW := ab_gw 410 (by decide +kernel) rfl
theorem w_411 : (Jvm.Cond.code ({ cls := "DominoKing", name := "as", desc := "(II)I" } : Jvm.MethodName) prog_1_method_5_code (3 : Nat) (Option.some Jvm.ClassFile.FieldType.int)) ∈ ab_GW := ab_gw 411 (by decide +kernel) rfl
theorem w_412 : (Jvm.Cond.methodLink "DominoKing" (108 : Nat) ({ cls := "DominoKing$Kinds", name := "isOf", desc := "(II)Z" } : Jvm.MethodName)) ∈ ab_GW := ab_gw 412 (by decide +kernel) rfl
