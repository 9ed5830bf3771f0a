/-! the words that the code rests on, by their places -/
theorem w_0 : Jvm.Cond.selects "DominoKing" ⟨"DominoKing", "isStone", "(I)Z"⟩ ⟨"DominoKing", "isStone", "(I)Z"⟩ ∈ ab_GW := ab_gw 0 (by decide +kernel) rfl
theorem w_1 : Jvm.Cond.selects "DominoKing$Thoughts" ⟨"DominoKing$Thoughts", "offerStone", "(LDominoKing$Table;II)V"⟩ ⟨"DominoKing$Thoughts", "offerStone", "(LDominoKing$Table;II)V"⟩ ∈ ab_GW := ab_gw 1 (by decide +kernel) rfl
theorem w_2 : Jvm.Cond.selects "DominoKing$Reader" ⟨"DominoKing$Reader", "begin", "()V"⟩ ⟨"DominoKing$Reader", "begin", "()V"⟩ ∈ ab_GW := ab_gw 2 (by decide +kernel) rfl
theorem w_3 : Jvm.Cond.selects "DominoKing$Reader" ⟨"DominoKing$Reader", "step", "()V"⟩ ⟨"DominoKing$Reader", "step", "()V"⟩ ∈ ab_GW := ab_gw 3 (by decide +kernel) rfl
theorem w_4 : Jvm.Cond.selects "DominoKing$Reader" ⟨"DominoKing$Reader", "sortAt", "(I)I"⟩ ⟨"DominoKing$Reader", "sortAt", "(I)I"⟩ ∈ ab_GW := ab_gw 4 (by decide +kernel) rfl
theorem w_5 : Jvm.Cond.selects "DominoKing$Reader" ⟨"DominoKing$Reader", "keyAtHand", "()I"⟩ ⟨"DominoKing$Reader", "keyAtHand", "()I"⟩ ∈ ab_GW := ab_gw 5 (by decide +kernel) rfl
theorem w_6 : Jvm.Cond.selects "DominoKing$Reader" ⟨"DominoKing$Reader", "wordIs", "(Ljava/lang/String;)Z"⟩ ⟨"DominoKing$Reader", "wordIs", "(Ljava/lang/String;)Z"⟩ ∈ ab_GW := ab_gw 6 (by decide +kernel) rfl
theorem w_7 : Jvm.Cond.selects "DominoKing$Reader" ⟨"DominoKing$Reader", "readLevel", "(III)V"⟩ ⟨"DominoKing$Reader", "readLevel", "(III)V"⟩ ∈ ab_GW := ab_gw 7 (by decide +kernel) rfl
theorem w_8 : Jvm.Cond.selects "DominoKing$Reader" ⟨"DominoKing$Reader", "readPiece", "(II)V"⟩ ⟨"DominoKing$Reader", "readPiece", "(II)V"⟩ ∈ ab_GW := ab_gw 8 (by decide +kernel) rfl
theorem w_9 : Jvm.Cond.selects "DominoKing$Reader" ⟨"DominoKing$Reader", "signAtHand", "()I"⟩ ⟨"DominoKing$Reader", "signAtHand", "()I"⟩ ∈ ab_GW := ab_gw 9 (by decide +kernel) rfl
theorem w_10 : Jvm.Cond.selects "DominoKing$Reader" ⟨"DominoKing$Reader", "emit", "(II)V"⟩ ⟨"DominoKing$Reader", "emit", "(II)V"⟩ ∈ ab_GW := ab_gw 10 (by decide +kernel) rfl
theorem w_11 : Jvm.Cond.selects "DominoKing$Reader" ⟨"DominoKing$Reader", "close", "()V"⟩ ⟨"DominoKing$Reader", "close", "()V"⟩ ∈ ab_GW := ab_gw 11 (by decide +kernel) rfl
theorem w_12 : Jvm.Cond.selects "DominoKing$Reader" ⟨"DominoKing$Reader", "readOperand", "()V"⟩ ⟨"DominoKing$Reader", "readOperand", "()V"⟩ ∈ ab_GW := ab_gw 12 (by decide +kernel) rfl
theorem w_13 : Jvm.Cond.selects "DominoKing$Reader" ⟨"DominoKing$Reader", "numberAtHand", "()I"⟩ ⟨"DominoKing$Reader", "numberAtHand", "()I"⟩ ∈ ab_GW := ab_gw 13 (by decide +kernel) rfl
theorem w_14 : Jvm.Cond.selects "DominoKing$Reader" ⟨"DominoKing$Reader", "nameAtHand", "()I"⟩ ⟨"DominoKing$Reader", "nameAtHand", "()I"⟩ ∈ ab_GW := ab_gw 14 (by decide +kernel) rfl
theorem w_15 : Jvm.Cond.selects "DominoKing" ⟨"DominoKing", "lookFor", "(II)I"⟩ ⟨"DominoKing", "lookFor", "(II)I"⟩ ∈ ab_GW := ab_gw 15 (by decide +kernel) rfl
theorem w_16 : Jvm.Cond.selects "DominoKingModel" ⟨"DominoKingModel", "comes", "(III)I"⟩ ⟨"DominoKingModel", "comes", "(III)I"⟩ ∈ ab_GW := ab_gw 16 (by decide +kernel) rfl
theorem w_17 : Jvm.Cond.selects "DominoKingModel" ⟨"DominoKingModel", "isStone", "(I)Z"⟩ ⟨"DominoKingModel", "isStone", "(I)Z"⟩ ∈ ab_GW := ab_gw 17 (by decide +kernel) rfl
theorem w_18 : Jvm.Cond.selects "DominoKingModel" ⟨"DominoKingModel", "of", "(II)I"⟩ ⟨"DominoKingModel", "of", "(II)I"⟩ ∈ ab_GW := ab_gw 18 (by decide +kernel) rfl
theorem w_19 : Jvm.Cond.selects "DominoKingModel" ⟨"DominoKingModel", "heavyOf", "(I)I"⟩ ⟨"DominoKingModel", "heavyOf", "(I)I"⟩ ∈ ab_GW := ab_gw 19 (by decide +kernel) rfl
theorem w_20 : Jvm.Cond.selects "DominoKingModel" ⟨"DominoKingModel", "worthOf", "(I)I"⟩ ⟨"DominoKingModel", "worthOf", "(I)I"⟩ ∈ ab_GW := ab_gw 20 (by decide +kernel) rfl
theorem w_21 : Jvm.Cond.selects "DominoKingModel" ⟨"DominoKingModel", "offOf", "(III)I"⟩ ⟨"DominoKingModel", "offOf", "(III)I"⟩ ∈ ab_GW := ab_gw 21 (by decide +kernel) rfl
theorem w_22 : Jvm.Cond.selects "DominoKingModel" ⟨"DominoKingModel", "spotsOf", "(III)I"⟩ ⟨"DominoKingModel", "spotsOf", "(III)I"⟩ ∈ ab_GW := ab_gw 22 (by decide +kernel) rfl
theorem w_23 : Jvm.Cond.selects "DominoKingModel" ⟨"DominoKingModel", "darkOf", "(III)I"⟩ ⟨"DominoKingModel", "darkOf", "(III)I"⟩ ∈ ab_GW := ab_gw 23 (by decide +kernel) rfl
theorem w_24 : Jvm.Cond.selects "DominoKingModel" ⟨"DominoKingModel", "counts", "(I)I"⟩ ⟨"DominoKingModel", "counts", "(I)I"⟩ ∈ ab_GW := ab_gw 24 (by decide +kernel) rfl
theorem w_25 : Jvm.Cond.selects "DominoKingModel" ⟨"DominoKingModel", "worksOut", "(I)I"⟩ ⟨"DominoKingModel", "worksOut", "(I)I"⟩ ∈ ab_GW := ab_gw 25 (by decide +kernel) rfl
theorem w_26 : Jvm.Cond.selects "DominoKingModel" ⟨"DominoKingModel", "becomes", "(II)I"⟩ ⟨"DominoKingModel", "becomes", "(II)I"⟩ ∈ ab_GW := ab_gw 26 (by decide +kernel) rfl
theorem w_27 : Jvm.Cond.selects "DominoKingModel" ⟨"DominoKingModel", "holder", "(I)I"⟩ ⟨"DominoKingModel", "holder", "(I)I"⟩ ∈ ab_GW := ab_gw 27 (by decide +kernel) rfl
theorem w_28 : Jvm.Cond.selects "DominoKingModel" ⟨"DominoKingModel", "draw", "()I"⟩ ⟨"DominoKingModel", "draw", "()I"⟩ ∈ ab_GW := ab_gw 28 (by decide +kernel) rfl
theorem w_29 : Jvm.Cond.selects "DominoKingModel" ⟨"DominoKingModel", "manyLaid", "()I"⟩ ⟨"DominoKingModel", "manyLaid", "()I"⟩ ∈ ab_GW := ab_gw 29 (by decide +kernel) rfl
theorem w_30 : Jvm.Cond.selects "DominoKingModel" ⟨"DominoKingModel", "goesOn", "(I)V"⟩ ⟨"DominoKingModel", "goesOn", "(I)V"⟩ ∈ ab_GW := ab_gw 30 (by decide +kernel) rfl
theorem w_31 : Jvm.Cond.selects "DominoKingModel" ⟨"DominoKingModel", "day", "()V"⟩ ⟨"DominoKingModel", "day", "()V"⟩ ∈ ab_GW := ab_gw 31 (by decide +kernel) rfl
theorem w_32 : Jvm.Cond.selects "DominoKingModel" ⟨"DominoKingModel", "laysIn", "(I)V"⟩ ⟨"DominoKingModel", "laysIn", "(I)V"⟩ ∈ ab_GW := ab_gw 32 (by decide +kernel) rfl
theorem w_33 : Jvm.Cond.selects "DominoKingModel" ⟨"DominoKingModel", "picture", "()I"⟩ ⟨"DominoKingModel", "picture", "()I"⟩ ∈ ab_GW := ab_gw 33 (by decide +kernel) rfl
theorem w_34 : Jvm.Cond.selects "DominoKingModel" ⟨"DominoKingModel", "matches", "()I"⟩ ⟨"DominoKingModel", "matches", "()I"⟩ ∈ ab_GW := ab_gw 34 (by decide +kernel) rfl
theorem w_35 : Jvm.Cond.selects "DominoKingModel" ⟨"DominoKingModel", "layable", "(I)I"⟩ ⟨"DominoKingModel", "layable", "(I)I"⟩ ∈ ab_GW := ab_gw 35 (by decide +kernel) rfl
theorem w_36 : Jvm.Cond.selects "DominoKingModel" ⟨"DominoKingModel", "leastAt", "(II)I"⟩ ⟨"DominoKingModel", "leastAt", "(II)I"⟩ ∈ ab_GW := ab_gw 36 (by decide +kernel) rfl
theorem w_37 : Jvm.Cond.selects "DominoKingModel" ⟨"DominoKingModel", "change", "(II)V"⟩ ⟨"DominoKingModel", "change", "(II)V"⟩ ∈ ab_GW := ab_gw 37 (by decide +kernel) rfl
theorem w_38 : Jvm.Cond.selects "DominoKingModel" ⟨"DominoKingModel", "falls", "(I)I"⟩ ⟨"DominoKingModel", "falls", "(I)I"⟩ ∈ ab_GW := ab_gw 38 (by decide +kernel) rfl
theorem w_39 : Jvm.Cond.selects "DominoKingModel" ⟨"DominoKingModel", "thinks", "()V"⟩ ⟨"DominoKingModel", "thinks", "()V"⟩ ∈ ab_GW := ab_gw 39 (by decide +kernel) rfl
theorem w_40 : Jvm.Cond.selects "DominoKingModel" ⟨"DominoKingModel", "putsBack", "()V"⟩ ⟨"DominoKingModel", "putsBack", "()V"⟩ ∈ ab_GW := ab_gw 40 (by decide +kernel) rfl
theorem w_41 : Jvm.Cond.selects "DominoKingModel" ⟨"DominoKingModel", "isLaid", "()Z"⟩ ⟨"DominoKingModel", "isLaid", "()Z"⟩ ∈ ab_GW := ab_gw 41 (by decide +kernel) rfl
theorem w_42 : Jvm.Cond.selects "DominoKingModel" ⟨"DominoKingModel", "offBy", "(II)J"⟩ ⟨"DominoKingModel", "offBy", "(II)J"⟩ ∈ ab_GW := ab_gw 42 (by decide +kernel) rfl
theorem w_43 : Jvm.Cond.selects "DominoKingModel" ⟨"DominoKingModel", "darkAt", "(I)I"⟩ ⟨"DominoKingModel", "darkAt", "(I)I"⟩ ∈ ab_GW := ab_gw 43 (by decide +kernel) rfl
theorem w_44 : Jvm.Cond.selects "DominoKingModel" ⟨"DominoKingModel", "go", "()V"⟩ ⟨"DominoKingModel", "go", "()V"⟩ ∈ ab_GW := ab_gw 44 (by decide +kernel) rfl
theorem w_45 : Jvm.Cond.selects "DominoKingModel" ⟨"DominoKingModel", "isLetter", "(I)Z"⟩ ⟨"DominoKingModel", "isLetter", "(I)Z"⟩ ∈ ab_GW := ab_gw 45 (by decide +kernel) rfl
theorem w_46 : Jvm.Cond.selects "DominoKingModel" ⟨"DominoKingModel", "isFigure", "(I)Z"⟩ ⟨"DominoKingModel", "isFigure", "(I)Z"⟩ ∈ ab_GW := ab_gw 46 (by decide +kernel) rfl
theorem w_47 : Jvm.Cond.selects "DominoKingModel" ⟨"DominoKingModel", "takesKey", "()Z"⟩ ⟨"DominoKingModel", "takesKey", "()Z"⟩ ∈ ab_GW := ab_gw 47 (by decide +kernel) rfl
theorem w_48 : Jvm.Cond.selects "DominoKingModel" ⟨"DominoKingModel", "takesE", "()Z"⟩ ⟨"DominoKingModel", "takesE", "()Z"⟩ ∈ ab_GW := ab_gw 48 (by decide +kernel) rfl
theorem w_49 : Jvm.Cond.selects "DominoKingModel" ⟨"DominoKingModel", "takesPart", "()Z"⟩ ⟨"DominoKingModel", "takesPart", "()Z"⟩ ∈ ab_GW := ab_gw 49 (by decide +kernel) rfl
theorem w_50 : Jvm.Cond.selects "DominoKingModel" ⟨"DominoKingModel", "nameOf", "(I)I"⟩ ⟨"DominoKingModel", "nameOf", "(I)I"⟩ ∈ ab_GW := ab_gw 50 (by decide +kernel) rfl
theorem w_51 : Jvm.Cond.selects "DominoKingModel" ⟨"DominoKingModel", "settle", "(I)V"⟩ ⟨"DominoKingModel", "settle", "(I)V"⟩ ∈ ab_GW := ab_gw 51 (by decide +kernel) rfl
theorem w_52 : Jvm.Cond.selects "DominoKingModel" ⟨"DominoKingModel", "notsOpen", "()I"⟩ ⟨"DominoKingModel", "notsOpen", "()I"⟩ ∈ ab_GW := ab_gw 52 (by decide +kernel) rfl
theorem w_53 : Jvm.Cond.selects "DominoKingModel" ⟨"DominoKingModel", "signHere", "()I"⟩ ⟨"DominoKingModel", "signHere", "()I"⟩ ∈ ab_GW := ab_gw 53 (by decide +kernel) rfl
theorem w_55 : (Jvm.Cond.initialized "DominoKing") ∈ ab_GW := ab_gw 55 (by decide +kernel) rfl
theorem w_56 : (Jvm.Cond.initialized "DominoKing$Table") ∈ ab_GW := ab_gw 56 (by decide +kernel) rfl
theorem w_57 : (Jvm.Cond.initialized "java/util/Arrays") ∈ ab_GW := ab_gw 57 (by decide +kernel) rfl
theorem w_58 : (Jvm.Cond.initialized "DominoKing$Thoughts") ∈ ab_GW := ab_gw 58 (by decide +kernel) rfl
theorem w_59 : (Jvm.Cond.initialized "DominoKing$Tape") ∈ ab_GW := ab_gw 59 (by decide +kernel) rfl
theorem w_60 : (Jvm.Cond.initialized "DominoKing$Reader") ∈ ab_GW := ab_gw 60 (by decide +kernel) rfl
theorem w_61 : (Jvm.Cond.initialized "DominoKing$Sheet") ∈ ab_GW := ab_gw 61 (by decide +kernel) rfl
theorem w_62 : (Jvm.Cond.initialized "DominoKing$Slot") ∈ ab_GW := ab_gw 62 (by decide +kernel) rfl
theorem w_63 : (Jvm.Cond.initialized "DominoKingModel") ∈ ab_GW := ab_gw 63 (by decide +kernel) rfl
theorem w_64 : (Jvm.Cond.initialized "DominoKing$Kinds") ∈ ab_GW := ab_gw 64 (by decide +kernel) rfl
theorem w_65 : (Jvm.Cond.initialized "DominoKing$Text") ∈ ab_GW := ab_gw 65 (by decide +kernel) rfl
theorem w_66 : (Jvm.Cond.initialized "java/lang/Math") ∈ ab_GW := ab_gw 66 (by decide +kernel) rfl
theorem w_67 : (Jvm.Cond.initialized "java/lang/Integer") ∈ ab_GW := ab_gw 67 (by decide +kernel) rfl
theorem w_68 : (Jvm.Cond.initialized "java/lang/System") ∈ ab_GW := ab_gw 68 (by decide +kernel) rfl
theorem w_69 : (Jvm.Cond.initialized "java/lang/String") ∈ ab_GW := ab_gw 69 (by decide +kernel) rfl
theorem w_70 : (Jvm.Cond.initialized "java/lang/StringLatin1") ∈ ab_GW := ab_gw 70 (by decide +kernel) rfl
theorem w_71 : (Jvm.Cond.initialized "jdk/internal/util/Preconditions") ∈ ab_GW := ab_gw 71 (by decide +kernel) rfl
theorem w_73 : (Jvm.Cond.initialized "java/lang/Character") ∈ ab_GW := ab_gw 73 (by decide +kernel) rfl
theorem w_74 : (Jvm.Cond.classLink "DominoKingLaw" (7 : Nat) "DominoKing") ∈ ab_GW := ab_gw 74 (by decide +kernel) rfl
theorem w_75 : (Jvm.Cond.instantiable "DominoKing" (10 : Nat)) ∈ ab_GW := ab_gw 75 (by decide +kernel) rfl
theorem w_76 : (Jvm.Cond.methodLink "DominoKingLaw" (9 : Nat) ({ cls := "DominoKing", name := "<init>", desc := "()V" } : Jvm.MethodName)) ∈ ab_GW := ab_gw 76 (by decide +kernel) rfl
theorem w_77 : (Jvm.Cond.instanceMethod ({ cls := "DominoKing", name := "<init>", desc := "()V" } : Jvm.MethodName)) ∈ ab_GW := ab_gw 77 (by decide +kernel) rfl
theorem w_78 : (Jvm.Cond.code ({ cls := "DominoKing", name := "<init>", desc := "()V" } : Jvm.MethodName) prog_1_method_1_code (2 : Nat) (Option.none : Option Jvm.ClassFile.FieldType)) ∈ ab_GW := ab_gw 78 (by decide +kernel) rfl
theorem w_79 : (Jvm.Cond.methodLink "DominoKing" (1 : Nat) ({ cls := "java/lang/Object", name := "<init>", desc := "()V" } : Jvm.MethodName)) ∈ ab_GW := ab_gw 79 (by decide +kernel) rfl
theorem w_80 : (Jvm.Cond.instanceMethod ({ cls := "java/lang/Object", name := "<init>", desc := "()V" } : Jvm.MethodName)) ∈ ab_GW := ab_gw 80 (by decide +kernel) rfl
theorem w_81 : (Jvm.Cond.code ({ cls := "java/lang/Object", name := "<init>", desc := "()V" } : Jvm.MethodName) object_method_1_code (1 : Nat) (Option.none : Option Jvm.ClassFile.FieldType)) ∈ ab_GW := ab_gw 81 (by decide +kernel) rfl
theorem w_82 : (Jvm.Cond.classLink "DominoKing" (7 : Nat) "DominoKing$Table") ∈ ab_GW := ab_gw 82 (by decide +kernel) rfl
theorem w_83 : (Jvm.Cond.instantiable "DominoKing$Table" (15 : Nat)) ∈ ab_GW := ab_gw 83 (by decide +kernel) rfl
theorem w_84 : (Jvm.Cond.methodLink "DominoKing" (9 : Nat) ({ cls := "DominoKing$Table", name := "<init>", desc := "()V" } : Jvm.MethodName)) ∈ ab_GW := ab_gw 84 (by decide +kernel) rfl
theorem w_85 : (Jvm.Cond.instanceMethod ({ cls := "DominoKing$Table", name := "<init>", desc := "()V" } : Jvm.MethodName)) ∈ ab_GW := ab_gw 85 (by decide +kernel) rfl
theorem w_86 : (Jvm.Cond.code ({ cls := "DominoKing$Table", name := "<init>", desc := "()V" } : Jvm.MethodName) prog_6_method_1_code (1 : Nat) (Option.none : Option Jvm.ClassFile.FieldType)) ∈ ab_GW := ab_gw 86 (by decide +kernel) rfl
theorem w_87 : (Jvm.Cond.methodLink "DominoKing$Table" (3 : Nat) ({ cls := "java/lang/Object", name := "<init>", desc := "()V" } : Jvm.MethodName)) ∈ ab_GW := ab_gw 87 (by decide +kernel) rfl
theorem w_88 : (Jvm.Cond.classLink "DominoKing$Table" (36 : Nat) "DominoKing$Text") ∈ ab_GW := ab_gw 88 (by decide +kernel) rfl
theorem w_90 : (Jvm.Cond.methodLink "DominoKing$Table" (49 : Nat) ({ cls := "java/util/Arrays", name := "fill", desc := "([II)V" } : Jvm.MethodName)) ∈ ab_GW := ab_gw 90 (by decide +kernel) rfl
theorem w_91 : (Jvm.Cond.static ({ cls := "java/util/Arrays", name := "fill", desc := "([II)V" } : Jvm.MethodName)) ∈ ab_GW := ab_gw 91 (by decide +kernel) rfl
theorem w_92 : (Jvm.Cond.code ({ cls := "java/util/Arrays", name := "fill", desc := "([II)V" } : Jvm.MethodName) prog_20_method_103_code (4 : Nat) (Option.none : Option Jvm.ClassFile.FieldType)) ∈ ab_GW := ab_gw 92 (by decide +kernel) rfl
theorem w_93 : (Jvm.Cond.fieldLink "DominoKing$Table" (9 : Nat) "DominoKing$Table" "kinds" "[I") ∈ ab_GW := ab_gw 93 (by decide +kernel) rfl
theorem w_94 : (Jvm.Cond.fieldLink "DominoKing" (78 : Nat) "DominoKing$Table" "kinds" "[I") ∈ ab_GW := ab_gw 94 (by decide +kernel) rfl
theorem w_95 : (Jvm.Cond.fieldLink "DominoKing$Table" (15 : Nat) "DominoKing$Table" "lefts" "[I") ∈ ab_GW := ab_gw 95 (by decide +kernel) rfl
theorem w_96 : (Jvm.Cond.fieldLink "DominoKing" (81 : Nat) "DominoKing$Table" "lefts" "[I") ∈ ab_GW := ab_gw 96 (by decide +kernel) rfl
theorem w_97 : (Jvm.Cond.fieldLink "DominoKing$Table" (18 : Nat) "DominoKing$Table" "rights" "[I") ∈ ab_GW := ab_gw 97 (by decide +kernel) rfl
theorem w_98 : (Jvm.Cond.fieldLink "DominoKing" (84 : Nat) "DominoKing$Table" "rights" "[I") ∈ ab_GW := ab_gw 98 (by decide +kernel) rfl
theorem w_99 : (Jvm.Cond.fieldLink "DominoKing$Table" (21 : Nat) "DominoKing$Table" "places" "[I") ∈ ab_GW := ab_gw 99 (by decide +kernel) rfl
theorem w_100 : (Jvm.Cond.fieldLink "DominoKing" (87 : Nat) "DominoKing$Table" "places" "[I") ∈ ab_GW := ab_gw 100 (by decide +kernel) rfl
theorem w_101 : (Jvm.Cond.fieldLink "DominoKing$Thoughts" (62 : Nat) "DominoKing$Table" "places" "[I") ∈ ab_GW := ab_gw 101 (by decide +kernel) rfl
theorem w_102 : (Jvm.Cond.fieldLink "DominoKing$Table" (24 : Nat) "DominoKing$Table" "turned" "[I") ∈ ab_GW := ab_gw 102 (by decide +kernel) rfl
theorem w_103 : (Jvm.Cond.fieldLink "DominoKing" (90 : Nat) "DominoKing$Table" "turned" "[I") ∈ ab_GW := ab_gw 103 (by decide +kernel) rfl
theorem w_104 : (Jvm.Cond.fieldLink "DominoKing$Table" (27 : Nat) "DominoKing$Table" "held" "[I") ∈ ab_GW := ab_gw 104 (by decide +kernel) rfl
theorem w_105 : (Jvm.Cond.fieldLink "DominoKing" (117 : Nat) "DominoKing$Table" "held" "[I") ∈ ab_GW := ab_gw 105 (by decide +kernel) rfl
theorem w_106 : (Jvm.Cond.fieldLink "DominoKing$Table" (30 : Nat) "DominoKing$Table" "wants" "[I") ∈ ab_GW := ab_gw 106 (by decide +kernel) rfl
theorem w_107 : (Jvm.Cond.fieldLink "DominoKing" (125 : Nat) "DominoKing$Table" "wants" "[I") ∈ ab_GW := ab_gw 107 (by decide +kernel) rfl
theorem w_108 : (Jvm.Cond.fieldLink "DominoKing$Table" (33 : Nat) "DominoKing$Table" "darks" "[I") ∈ ab_GW := ab_gw 108 (by decide +kernel) rfl
theorem w_109 : (Jvm.Cond.fieldLink "DominoKing$Table" (38 : Nat) "DominoKing$Table" "texts" "[LDominoKing$Text;") ∈ ab_GW := ab_gw 109 (by decide +kernel) rfl
theorem w_110 : (Jvm.Cond.fieldLink "DominoKing$Table" (42 : Nat) "DominoKing$Table" "laws" "[I") ∈ ab_GW := ab_gw 110 (by decide +kernel) rfl
theorem w_111 : (Jvm.Cond.fieldLink "DominoKing" (240 : Nat) "DominoKing$Table" "laws" "[I") ∈ ab_GW := ab_gw 111 (by decide +kernel) rfl
theorem w_112 : (Jvm.Cond.fieldLink "DominoKing" (65 : Nat) "DominoKing$Table" "stones" "I") ∈ ab_GW := ab_gw 112 (by decide +kernel) rfl
theorem w_113 : (Jvm.Cond.fieldLink "DominoKing$Table" (61 : Nat) "DominoKing$Table" "stones" "I") ∈ ab_GW := ab_gw 113 (by decide +kernel) rfl
theorem w_114 : (Jvm.Cond.fieldLink "DominoKing$Thoughts" (37 : Nat) "DominoKing$Table" "stones" "I") ∈ ab_GW := ab_gw 114 (by decide +kernel) rfl
theorem w_115 : (Jvm.Cond.fieldLink "DominoKing$Table" (64 : Nat) "DominoKing$Table" "textCount" "I") ∈ ab_GW := ab_gw 115 (by decide +kernel) rfl
theorem w_116 : (Jvm.Cond.fieldLink "DominoKing" (224 : Nat) "DominoKing$Table" "textCount" "I") ∈ ab_GW := ab_gw 116 (by decide +kernel) rfl
theorem w_117 : (Jvm.Cond.fieldLink "DominoKing$Table" (67 : Nat) "DominoKing$Table" "wind" "I") ∈ ab_GW := ab_gw 117 (by decide +kernel) rfl
theorem w_118 : (Jvm.Cond.fieldLink "DominoKing" (128 : Nat) "DominoKing$Table" "wind" "I") ∈ ab_GW := ab_gw 118 (by decide +kernel) rfl
theorem w_119 : (Jvm.Cond.fieldLink "DominoKing$Table" (70 : Nat) "DominoKing$Table" "day" "I") ∈ ab_GW := ab_gw 119 (by decide +kernel) rfl
theorem w_120 : (Jvm.Cond.fieldLink "DominoKing" (147 : Nat) "DominoKing$Table" "day" "I") ∈ ab_GW := ab_gw 120 (by decide +kernel) rfl
theorem w_121 : (Jvm.Cond.fieldLink "DominoKing$Table" (45 : Nat) "DominoKing$Table" "z" "I") ∈ ab_GW := ab_gw 121 (by decide +kernel) rfl
theorem w_122 : (Jvm.Cond.fieldLink "DominoKing" (140 : Nat) "DominoKing$Table" "z" "I") ∈ ab_GW := ab_gw 122 (by decide +kernel) rfl
theorem w_154 : (Jvm.Cond.arrayClass Jvm.ClassFile.FieldType.int) ∈ ab_GW := ab_gw 154 (by decide +kernel) rfl
theorem w_155 : (Jvm.Cond.classLink "DominoKing" (19 : Nat) "DominoKing$Thoughts") ∈ ab_GW := ab_gw 155 (by decide +kernel) rfl
theorem w_156 : (Jvm.Cond.instantiable "DominoKing$Thoughts" (3 : Nat)) ∈ ab_GW := ab_gw 156 (by decide +kernel) rfl
theorem w_158 : (Jvm.Cond.instanceMethod ({ cls := "DominoKing$Thoughts", name := "<init>", desc := "()V" } : Jvm.MethodName)) ∈ ab_GW := ab_gw 158 (by decide +kernel) rfl
theorem w_159 : (Jvm.Cond.code ({ cls := "DominoKing$Thoughts", name := "<init>", desc := "()V" } : Jvm.MethodName) prog_9_method_1_code (1 : Nat) (Option.none : Option Jvm.ClassFile.FieldType)) ∈ ab_GW := ab_gw 159 (by decide +kernel) rfl
theorem w_160 : (Jvm.Cond.methodLink "DominoKing$Thoughts" (3 : Nat) ({ cls := "java/lang/Object", name := "<init>", desc := "()V" } : Jvm.MethodName)) ∈ ab_GW := ab_gw 160 (by decide +kernel) rfl
theorem w_161 : (Jvm.Cond.classLink "DominoKing$Thoughts" (9 : Nat) "DominoKing$Table") ∈ ab_GW := ab_gw 161 (by decide +kernel) rfl
theorem w_162 : (Jvm.Cond.methodLink "DominoKing$Thoughts" (11 : Nat) ({ cls := "DominoKing$Table", name := "<init>", desc := "()V" } : Jvm.MethodName)) ∈ ab_GW := ab_gw 162 (by decide +kernel) rfl
theorem w_163 : (Jvm.Cond.fieldLink "DominoKing$Thoughts" (12 : Nat) "DominoKing$Thoughts" "then" "LDominoKing$Table;") ∈ ab_GW := ab_gw 163 (by decide +kernel) rfl
theorem w_164 : (Jvm.Cond.fieldLink "DominoKing$Thoughts" (18 : Nat) "DominoKing$Thoughts" "ways" "[I") ∈ ab_GW := ab_gw 164 (by decide +kernel) rfl
theorem w_165 : (Jvm.Cond.fieldLink "DominoKing$Thoughts" (22 : Nat) "DominoKing$Thoughts" "offs" "[I") ∈ ab_GW := ab_gw 165 (by decide +kernel) rfl
theorem w_173 : (Jvm.Cond.classLink "DominoKing" (26 : Nat) "DominoKing$Tape") ∈ ab_GW := ab_gw 173 (by decide +kernel) rfl
theorem w_174 : (Jvm.Cond.instantiable "DominoKing$Tape" (2 : Nat)) ∈ ab_GW := ab_gw 174 (by decide +kernel) rfl
theorem w_176 : (Jvm.Cond.instanceMethod ({ cls := "DominoKing$Tape", name := "<init>", desc := "()V" } : Jvm.MethodName)) ∈ ab_GW := ab_gw 176 (by decide +kernel) rfl
theorem w_177 : (Jvm.Cond.code ({ cls := "DominoKing$Tape", name := "<init>", desc := "()V" } : Jvm.MethodName) prog_7_method_1_code (1 : Nat) (Option.none : Option Jvm.ClassFile.FieldType)) ∈ ab_GW := ab_gw 177 (by decide +kernel) rfl
theorem w_178 : (Jvm.Cond.methodLink "DominoKing$Tape" (3 : Nat) ({ cls := "java/lang/Object", name := "<init>", desc := "()V" } : Jvm.MethodName)) ∈ ab_GW := ab_gw 178 (by decide +kernel) rfl
theorem w_179 : (Jvm.Cond.fieldLink "DominoKing$Tape" (9 : Nat) "DominoKing$Tape" "bytes" "[I") ∈ ab_GW := ab_gw 179 (by decide +kernel) rfl
theorem w_180 : (Jvm.Cond.fieldLink "DominoKing$Reader" (92 : Nat) "DominoKing$Tape" "bytes" "[I") ∈ ab_GW := ab_gw 180 (by decide +kernel) rfl
theorem w_181 : (Jvm.Cond.fieldLink "DominoKing$Tape" (15 : Nat) "DominoKing$Tape" "size" "I") ∈ ab_GW := ab_gw 181 (by decide +kernel) rfl
theorem w_182 : (Jvm.Cond.fieldLink "DominoKing$Reader" (101 : Nat) "DominoKing$Tape" "size" "I") ∈ ab_GW := ab_gw 182 (by decide +kernel) rfl
theorem w_183 : (Jvm.Cond.fieldLink "DominoKing" (211 : Nat) "DominoKing$Tape" "size" "I") ∈ ab_GW := ab_gw 183 (by decide +kernel) rfl
theorem w_189 : (Jvm.Cond.classLink "DominoKing" (33 : Nat) "DominoKing$Reader") ∈ ab_GW := ab_gw 189 (by decide +kernel) rfl
theorem w_190 : (Jvm.Cond.instantiable "DominoKing$Reader" (11 : Nat)) ∈ ab_GW := ab_gw 190 (by decide +kernel) rfl
theorem w_191 : (Jvm.Cond.methodLink "DominoKing" (35 : Nat) ({ cls := "DominoKing$Reader", name := "<init>", desc := "(LDominoKing$Tape;)V" } : Jvm.MethodName)) ∈ ab_GW := ab_gw 191 (by decide +kernel) rfl
theorem w_192 : (Jvm.Cond.instanceMethod ({ cls := "DominoKing$Reader", name := "<init>", desc := "(LDominoKing$Tape;)V" } : Jvm.MethodName)) ∈ ab_GW := ab_gw 192 (by decide +kernel) rfl
theorem w_193 : (Jvm.Cond.code ({ cls := "DominoKing$Reader", name := "<init>", desc := "(LDominoKing$Tape;)V" } : Jvm.MethodName) prog_3_method_1_code (2 : Nat) (Option.none : Option Jvm.ClassFile.FieldType)) ∈ ab_GW := ab_gw 193 (by decide +kernel) rfl
theorem w_194 : (Jvm.Cond.methodLink "DominoKing$Reader" (3 : Nat) ({ cls := "java/lang/Object", name := "<init>", desc := "()V" } : Jvm.MethodName)) ∈ ab_GW := ab_gw 194 (by decide +kernel) rfl
theorem w_196 : (Jvm.Cond.fieldLink "DominoKing$Reader" (39 : Nat) "DominoKing$Reader" "fault" "I") ∈ ab_GW := ab_gw 196 (by decide +kernel) rfl
theorem w_197 : (Jvm.Cond.fieldLink "DominoKing" (221 : Nat) "DominoKing$Reader" "fault" "I") ∈ ab_GW := ab_gw 197 (by decide +kernel) rfl
theorem w_198 : (Jvm.Cond.fieldLink "DominoKing$Reader" (24 : Nat) "DominoKing$Reader" "tape" "LDominoKing$Tape;") ∈ ab_GW := ab_gw 198 (by decide +kernel) rfl
theorem w_199 : (Jvm.Cond.fieldLink "DominoKing$Reader" (9 : Nat) "DominoKing$Reader" "signs" "[I") ∈ ab_GW := ab_gw 199 (by decide +kernel) rfl
theorem w_200 : (Jvm.Cond.fieldLink "DominoKing$Reader" (15 : Nat) "DominoKing$Reader" "values" "[I") ∈ ab_GW := ab_gw 200 (by decide +kernel) rfl
theorem w_201 : (Jvm.Cond.fieldLink "DominoKing$Reader" (63 : Nat) "DominoKing$Reader" "length" "I") ∈ ab_GW := ab_gw 201 (by decide +kernel) rfl
theorem w_202 : (Jvm.Cond.fieldLink "DominoKing$Reader" (60 : Nat) "DominoKing$Reader" "operands" "I") ∈ ab_GW := ab_gw 202 (by decide +kernel) rfl
theorem w_203 : (Jvm.Cond.fieldLink "DominoKing$Reader" (20 : Nat) "DominoKing$Reader" "names" "Ljava/lang/String;") ∈ ab_GW := ab_gw 203 (by decide +kernel) rfl
theorem w_204 : (Jvm.Cond.fieldLink "DominoKing$Reader" (55 : Nat) "DominoKing$Reader" "sort" "I") ∈ ab_GW := ab_gw 204 (by decide +kernel) rfl
theorem w_205 : (Jvm.Cond.fieldLink "DominoKing$Reader" (35 : Nat) "DominoKing$Reader" "start" "I") ∈ ab_GW := ab_gw 205 (by decide +kernel) rfl
theorem w_206 : (Jvm.Cond.fieldLink "DominoKing$Reader" (75 : Nat) "DominoKing$Reader" "stop" "I") ∈ ab_GW := ab_gw 206 (by decide +kernel) rfl
theorem w_207 : (Jvm.Cond.fieldLink "DominoKing$Reader" (108 : Nat) "DominoKing$Reader" "lacksBlank" "Z") ∈ ab_GW := ab_gw 207 (by decide +kernel) rfl
theorem w_231 : (Jvm.Cond.arrayClass Jvm.ClassFile.FieldType.byte) ∈ ab_GW := ab_gw 231 (by decide +kernel) rfl
theorem w_232 : (Jvm.Cond.classLink "DominoKing" (42 : Nat) "DominoKing$Sheet") ∈ ab_GW := ab_gw 232 (by decide +kernel) rfl
theorem w_234 : (Jvm.Cond.classLink "DominoKing" (48 : Nat) "DominoKing$Slot") ∈ ab_GW := ab_gw 234 (by decide +kernel) rfl
theorem w_236 : (Jvm.Cond.instantiable "DominoKing$Sheet" (3 : Nat)) ∈ ab_GW := ab_gw 236 (by decide +kernel) rfl
theorem w_238 : (Jvm.Cond.instanceMethod ({ cls := "DominoKing$Sheet", name := "<init>", desc := "()V" } : Jvm.MethodName)) ∈ ab_GW := ab_gw 238 (by decide +kernel) rfl
theorem w_239 : (Jvm.Cond.code ({ cls := "DominoKing$Sheet", name := "<init>", desc := "()V" } : Jvm.MethodName) prog_4_method_1_code (1 : Nat) (Option.none : Option Jvm.ClassFile.FieldType)) ∈ ab_GW := ab_gw 239 (by decide +kernel) rfl
theorem w_240 : (Jvm.Cond.methodLink "DominoKing$Sheet" (3 : Nat) ({ cls := "java/lang/Object", name := "<init>", desc := "()V" } : Jvm.MethodName)) ∈ ab_GW := ab_gw 240 (by decide +kernel) rfl
theorem w_241 : (Jvm.Cond.fieldLink "DominoKing$Sheet" (9 : Nat) "DominoKing$Sheet" "row" "[I") ∈ ab_GW := ab_gw 241 (by decide +kernel) rfl
theorem w_242 : (Jvm.Cond.fieldLink "DominoKing$Table" (179 : Nat) "DominoKing$Sheet" "row" "[I") ∈ ab_GW := ab_gw 242 (by decide +kernel) rfl
theorem w_243 : (Jvm.Cond.fieldLink "DominoKing" (260 : Nat) "DominoKing$Sheet" "row" "[I") ∈ ab_GW := ab_gw 243 (by decide +kernel) rfl
theorem w_244 : (Jvm.Cond.fieldLink "DominoKing$Sheet" (15 : Nat) "DominoKing$Sheet" "sort" "I") ∈ ab_GW := ab_gw 244 (by decide +kernel) rfl
theorem w_245 : (Jvm.Cond.fieldLink "DominoKing" (249 : Nat) "DominoKing$Sheet" "sort" "I") ∈ ab_GW := ab_gw 245 (by decide +kernel) rfl
theorem w_246 : (Jvm.Cond.fieldLink "DominoKing$Sheet" (19 : Nat) "DominoKing$Sheet" "size" "I") ∈ ab_GW := ab_gw 246 (by decide +kernel) rfl
theorem w_247 : (Jvm.Cond.fieldLink "DominoKing" (247 : Nat) "DominoKing$Sheet" "size" "I") ∈ ab_GW := ab_gw 247 (by decide +kernel) rfl
theorem w_255 : (Jvm.Cond.instantiable "DominoKing$Slot" (6 : Nat)) ∈ ab_GW := ab_gw 255 (by decide +kernel) rfl
theorem w_257 : (Jvm.Cond.instanceMethod ({ cls := "DominoKing$Slot", name := "<init>", desc := "()V" } : Jvm.MethodName)) ∈ ab_GW := ab_gw 257 (by decide +kernel) rfl
theorem w_258 : (Jvm.Cond.code ({ cls := "DominoKing$Slot", name := "<init>", desc := "()V" } : Jvm.MethodName) prog_5_method_1_code (1 : Nat) (Option.none : Option Jvm.ClassFile.FieldType)) ∈ ab_GW := ab_gw 258 (by decide +kernel) rfl
theorem w_259 : (Jvm.Cond.methodLink "DominoKing$Slot" (1 : Nat) ({ cls := "java/lang/Object", name := "<init>", desc := "()V" } : Jvm.MethodName)) ∈ ab_GW := ab_gw 259 (by decide +kernel) rfl
theorem w_260 : (Jvm.Cond.classLink "DominoKing$Slot" (7 : Nat) "DominoKing$Sheet") ∈ ab_GW := ab_gw 260 (by decide +kernel) rfl
theorem w_262 : (Jvm.Cond.fieldLink "DominoKing$Slot" (10 : Nat) "DominoKing$Slot" "sheet" "LDominoKing$Sheet;") ∈ ab_GW := ab_gw 262 (by decide +kernel) rfl
theorem w_263 : (Jvm.Cond.fieldLink "DominoKing" (285 : Nat) "DominoKing$Slot" "sheet" "LDominoKing$Sheet;") ∈ ab_GW := ab_gw 263 (by decide +kernel) rfl
theorem w_264 : (Jvm.Cond.fieldLink "DominoKing" (278 : Nat) "DominoKing$Slot" "thing" "I") ∈ ab_GW := ab_gw 264 (by decide +kernel) rfl
theorem w_265 : (Jvm.Cond.fieldLink "DominoKing$Slot" (16 : Nat) "DominoKing$Slot" "kind" "I") ∈ ab_GW := ab_gw 265 (by decide +kernel) rfl
theorem w_266 : (Jvm.Cond.fieldLink "DominoKing" (299 : Nat) "DominoKing$Slot" "kind" "I") ∈ ab_GW := ab_gw 266 (by decide +kernel) rfl
theorem w_267 : (Jvm.Cond.fieldLink "DominoKing$Slot" (20 : Nat) "DominoKing$Slot" "left" "I") ∈ ab_GW := ab_gw 267 (by decide +kernel) rfl
theorem w_268 : (Jvm.Cond.fieldLink "DominoKing" (302 : Nat) "DominoKing$Slot" "left" "I") ∈ ab_GW := ab_gw 268 (by decide +kernel) rfl
theorem w_269 : (Jvm.Cond.fieldLink "DominoKing$Slot" (23 : Nat) "DominoKing$Slot" "right" "I") ∈ ab_GW := ab_gw 269 (by decide +kernel) rfl
theorem w_270 : (Jvm.Cond.fieldLink "DominoKing" (305 : Nat) "DominoKing$Slot" "right" "I") ∈ ab_GW := ab_gw 270 (by decide +kernel) rfl
theorem w_271 : (Jvm.Cond.fieldLink "DominoKing" (293 : Nat) "DominoKing$Slot" "number" "I") ∈ ab_GW := ab_gw 271 (by decide +kernel) rfl
theorem w_285 : (Jvm.Cond.fieldLink "DominoKing" (10 : Nat) "DominoKing" "now" "LDominoKing$Table;") ∈ ab_GW := ab_gw 285 (by decide +kernel) rfl
theorem w_286 : (Jvm.Cond.fieldLink "DominoKing" (16 : Nat) "DominoKing" "image" "LDominoKing$Table;") ∈ ab_GW := ab_gw 286 (by decide +kernel) rfl
theorem w_287 : (Jvm.Cond.fieldLink "DominoKing" (22 : Nat) "DominoKing" "thoughts" "LDominoKing$Thoughts;") ∈ ab_GW := ab_gw 287 (by decide +kernel) rfl
theorem w_288 : (Jvm.Cond.fieldLink "DominoKing" (29 : Nat) "DominoKing" "tape" "LDominoKing$Tape;") ∈ ab_GW := ab_gw 288 (by decide +kernel) rfl
theorem w_289 : (Jvm.Cond.fieldLink "DominoKing" (38 : Nat) "DominoKing" "reader" "LDominoKing$Reader;") ∈ ab_GW := ab_gw 289 (by decide +kernel) rfl
theorem w_290 : (Jvm.Cond.fieldLink "DominoKing" (44 : Nat) "DominoKing" "sheets" "[LDominoKing$Sheet;") ∈ ab_GW := ab_gw 290 (by decide +kernel) rfl
theorem w_291 : (Jvm.Cond.fieldLink "DominoKing" (50 : Nat) "DominoKing" "slots" "[LDominoKing$Slot;") ∈ ab_GW := ab_gw 291 (by decide +kernel) rfl
theorem w_292 : (Jvm.Cond.fieldLink "DominoKing" (54 : Nat) "DominoKing" "waiting" "[I") ∈ ab_GW := ab_gw 292 (by decide +kernel) rfl
theorem w_293 : (Jvm.Cond.fieldLink "DominoKing" (308 : Nat) "DominoKing" "waits" "I") ∈ ab_GW := ab_gw 293 (by decide +kernel) rfl
theorem w_294 : (Jvm.Cond.fieldLink "DominoKing" (311 : Nat) "DominoKing" "kept" "Z") ∈ ab_GW := ab_gw 294 (by decide +kernel) rfl
theorem w_316 : (Jvm.Cond.methodLink "DominoKingLaw" (13 : Nat) ({ cls := "DominoKing", name := "stone", desc := "(III)I" } : Jvm.MethodName)) ∈ ab_GW := ab_gw 316 (by decide +kernel) rfl
theorem w_317 : (Jvm.Cond.instanceMethod ({ cls := "DominoKing", name := "stone", desc := "(III)I" } : Jvm.MethodName)) ∈ ab_GW := ab_gw 317 (by decide +kernel) rfl
theorem w_318 : (Jvm.Cond.selects "DominoKing" ({ cls := "DominoKing", name := "stone", desc := "(III)I" } : Jvm.MethodName) ({ cls := "DominoKing", name := "stone", desc := "(III)I" } : Jvm.MethodName)) ∈ ab_GW := ab_gw 318 (by decide +kernel) rfl
theorem w_319 : (Jvm.Cond.code ({ cls := "DominoKing", name := "stone", desc := "(III)I" } : Jvm.MethodName) prog_1_method_2_code (4 : Nat) (Option.some Jvm.ClassFile.FieldType.int)) ∈ ab_GW := ab_gw 319 (by decide +kernel) rfl
theorem w_320 : (Jvm.Cond.methodLink "DominoKing" (60 : Nat) ({ cls := "DominoKing", name := "within", desc := "(III)Z" } : Jvm.MethodName)) ∈ ab_GW := ab_gw 320 (by decide +kernel) rfl
theorem w_321 : (Jvm.Cond.static ({ cls := "DominoKing", name := "within", desc := "(III)Z" } : Jvm.MethodName)) ∈ ab_GW := ab_gw 321 (by decide +kernel) rfl
theorem w_322 : (Jvm.Cond.code ({ cls := "DominoKing", name := "within", desc := "(III)Z" } : Jvm.MethodName) prog_1_method_50_code (3 : Nat) (Option.some Jvm.ClassFile.FieldType.boolean)) ∈ ab_GW := ab_gw 322 (by decide +kernel) rfl
theorem w_323 : (Jvm.Cond.constant "DominoKing" (64 : Nat) (-1000000001 : Int32)) ∈ ab_GW := ab_gw 323 (by decide +kernel) rfl
theorem w_324 : (Jvm.Cond.constant "DominoKing" (69 : Nat) (-1000000003 : Int32)) ∈ ab_GW := ab_gw 324 (by decide +kernel) rfl
theorem w_325 : (Jvm.Cond.methodLink "DominoKing" (70 : Nat) ({ cls := "DominoKing$Table", name := "addStone", desc := "(III)I" } : Jvm.MethodName)) ∈ ab_GW := ab_gw 325 (by decide +kernel) rfl
theorem w_326 : (Jvm.Cond.instanceMethod ({ cls := "DominoKing$Table", name := "addStone", desc := "(III)I" } : Jvm.MethodName)) ∈ ab_GW := ab_gw 326 (by decide +kernel) rfl
theorem w_327 : (Jvm.Cond.selects "DominoKing$Table" ({ cls := "DominoKing$Table", name := "addStone", desc := "(III)I" } : Jvm.MethodName) ({ cls := "DominoKing$Table", name := "addStone", desc := "(III)I" } : Jvm.MethodName)) ∈ ab_GW := ab_gw 327 (by decide +kernel) rfl
theorem w_328 : (Jvm.Cond.code ({ cls := "DominoKing$Table", name := "addStone", desc := "(III)I" } : Jvm.MethodName) prog_6_method_3_code (5 : Nat) (Option.some Jvm.ClassFile.FieldType.int)) ∈ ab_GW := ab_gw 328 (by decide +kernel) rfl
theorem w_329 : (Jvm.Cond.methodLink "DominoKing$Table" (73 : Nat) ({ cls := "DominoKing$Table", name := "darken", desc := "(I)V" } : Jvm.MethodName)) ∈ ab_GW := ab_gw 329 (by decide +kernel) rfl
theorem w_330 : (Jvm.Cond.instanceMethod ({ cls := "DominoKing$Table", name := "darken", desc := "(I)V" } : Jvm.MethodName)) ∈ ab_GW := ab_gw 330 (by decide +kernel) rfl
theorem w_331 : (Jvm.Cond.selects "DominoKing$Table" ({ cls := "DominoKing$Table", name := "darken", desc := "(I)V" } : Jvm.MethodName) ({ cls := "DominoKing$Table", name := "darken", desc := "(I)V" } : Jvm.MethodName)) ∈ ab_GW := ab_gw 331 (by decide +kernel) rfl
theorem w_332 : (Jvm.Cond.code ({ cls := "DominoKing$Table", name := "darken", desc := "(I)V" } : Jvm.MethodName) prog_6_method_9_code (5 : Nat) (Option.none : Option Jvm.ClassFile.FieldType)) ∈ ab_GW := ab_gw 332 (by decide +kernel) rfl
theorem w_333 : (Jvm.Cond.methodLink "DominoKing$Table" (97 : Nat) ({ cls := "DominoKing$Table", name := "law", desc := "(I)LDominoKing$Text;" } : Jvm.MethodName)) ∈ ab_GW := ab_gw 333 (by decide +kernel) rfl
theorem w_334 : (Jvm.Cond.instanceMethod ({ cls := "DominoKing$Table", name := "law", desc := "(I)LDominoKing$Text;" } : Jvm.MethodName)) ∈ ab_GW := ab_gw 334 (by decide +kernel) rfl
theorem w_335 : (Jvm.Cond.selects "DominoKing$Table" ({ cls := "DominoKing$Table", name := "law", desc := "(I)LDominoKing$Text;" } : Jvm.MethodName) ({ cls := "DominoKing$Table", name := "law", desc := "(I)LDominoKing$Text;" } : Jvm.MethodName)) ∈ ab_GW := ab_gw 335 (by decide +kernel) rfl
theorem w_336 : (Jvm.Cond.code ({ cls := "DominoKing$Table", name := "law", desc := "(I)LDominoKing$Text;" } : Jvm.MethodName) prog_6_method_7_code (2 : Nat) (Option.some (Jvm.ClassFile.FieldType.object "DominoKing$Text"))) ∈ ab_GW := ab_gw 336 (by decide +kernel) rfl
theorem w_337 : (Jvm.Cond.methodLink "DominoKing$Table" (90 : Nat) ({ cls := "DominoKing$Table", name := "textAt", desc := "(I)LDominoKing$Text;" } : Jvm.MethodName)) ∈ ab_GW := ab_gw 337 (by decide +kernel) rfl
theorem w_338 : (Jvm.Cond.instanceMethod ({ cls := "DominoKing$Table", name := "textAt", desc := "(I)LDominoKing$Text;" } : Jvm.MethodName)) ∈ ab_GW := ab_gw 338 (by decide +kernel) rfl
theorem w_339 : (Jvm.Cond.selects "DominoKing$Table" ({ cls := "DominoKing$Table", name := "textAt", desc := "(I)LDominoKing$Text;" } : Jvm.MethodName) ({ cls := "DominoKing$Table", name := "textAt", desc := "(I)LDominoKing$Text;" } : Jvm.MethodName)) ∈ ab_GW := ab_gw 339 (by decide +kernel) rfl
theorem w_340 : (Jvm.Cond.code ({ cls := "DominoKing$Table", name := "textAt", desc := "(I)LDominoKing$Text;" } : Jvm.MethodName) prog_6_method_6_code (2 : Nat) (Option.some (Jvm.ClassFile.FieldType.object "DominoKing$Text"))) ∈ ab_GW := ab_gw 340 (by decide +kernel) rfl
theorem w_342 : (Jvm.Cond.methodLink "DominoKing$Table" (100 : Nat) ({ cls := "DominoKing$Table", name := "heavy", desc := "(I)I" } : Jvm.MethodName)) ∈ ab_GW := ab_gw 342 (by decide +kernel) rfl
theorem w_343 : (Jvm.Cond.instanceMethod ({ cls := "DominoKing$Table", name := "heavy", desc := "(I)I" } : Jvm.MethodName)) ∈ ab_GW := ab_gw 343 (by decide +kernel) rfl
theorem w_344 : (Jvm.Cond.selects "DominoKing$Table" ({ cls := "DominoKing$Table", name := "heavy", desc := "(I)I" } : Jvm.MethodName) ({ cls := "DominoKing$Table", name := "heavy", desc := "(I)I" } : Jvm.MethodName)) ∈ ab_GW := ab_gw 344 (by decide +kernel) rfl
theorem w_345 : (Jvm.Cond.code ({ cls := "DominoKing$Table", name := "heavy", desc := "(I)I" } : Jvm.MethodName) prog_6_method_12_code (2 : Nat) (Option.some Jvm.ClassFile.FieldType.int)) ∈ ab_GW := ab_gw 345 (by decide +kernel) rfl
theorem w_346 : (Jvm.Cond.methodLink "DominoKing$Table" (123 : Nat) ({ cls := "DominoKing$Kinds", name := "heavy", desc := "(III)I" } : Jvm.MethodName)) ∈ ab_GW := ab_gw 346 (by decide +kernel) rfl
theorem w_347 : (Jvm.Cond.static ({ cls := "DominoKing$Kinds", name := "heavy", desc := "(III)I" } : Jvm.MethodName)) ∈ ab_GW := ab_gw 347 (by decide +kernel) rfl
theorem w_348 : (Jvm.Cond.code ({ cls := "DominoKing$Kinds", name := "heavy", desc := "(III)I" } : Jvm.MethodName) prog_2_method_4_code (4 : Nat) (Option.some Jvm.ClassFile.FieldType.int)) ∈ ab_GW := ab_gw 348 (by decide +kernel) rfl
theorem w_349 : (Jvm.Cond.methodLink "DominoKing$Table" (104 : Nat) ({ cls := "DominoKing$Table", name := "darkAt", desc := "(III)I" } : Jvm.MethodName)) ∈ ab_GW := ab_gw 349 (by decide +kernel) rfl
theorem w_350 : (Jvm.Cond.static ({ cls := "DominoKing$Table", name := "darkAt", desc := "(III)I" } : Jvm.MethodName)) ∈ ab_GW := ab_gw 350 (by decide +kernel) rfl
theorem w_351 : (Jvm.Cond.code ({ cls := "DominoKing$Table", name := "darkAt", desc := "(III)I" } : Jvm.MethodName) prog_6_method_11_code (3 : Nat) (Option.some Jvm.ClassFile.FieldType.int)) ∈ ab_GW := ab_gw 351 (by decide +kernel) rfl
theorem w_352 : (Jvm.Cond.methodLink "DominoKing$Table" (107 : Nat) ({ cls := "DominoKing$Table", name := "darkOf", desc := "(LDominoKing$Text;IIII)I" } : Jvm.MethodName)) ∈ ab_GW := ab_gw 352 (by decide +kernel) rfl
theorem w_353 : (Jvm.Cond.static ({ cls := "DominoKing$Table", name := "darkOf", desc := "(LDominoKing$Text;IIII)I" } : Jvm.MethodName)) ∈ ab_GW := ab_gw 353 (by decide +kernel) rfl
theorem w_354 : (Jvm.Cond.code ({ cls := "DominoKing$Table", name := "darkOf", desc := "(LDominoKing$Text;IIII)I" } : Jvm.MethodName) prog_6_method_10_code (6 : Nat) (Option.some Jvm.ClassFile.FieldType.int)) ∈ ab_GW := ab_gw 354 (by decide +kernel) rfl
theorem w_355 : (Jvm.Cond.methodLink "DominoKing$Table" (111 : Nat) ({ cls := "DominoKing$Text", name := "gives", desc := "(III)I" } : Jvm.MethodName)) ∈ ab_GW := ab_gw 355 (by decide +kernel) rfl
theorem w_356 : (Jvm.Cond.instanceMethod ({ cls := "DominoKing$Text", name := "gives", desc := "(III)I" } : Jvm.MethodName)) ∈ ab_GW := ab_gw 356 (by decide +kernel) rfl
theorem w_357 : (Jvm.Cond.selects "DominoKing$Text" ({ cls := "DominoKing$Text", name := "gives", desc := "(III)I" } : Jvm.MethodName) ({ cls := "DominoKing$Text", name := "gives", desc := "(III)I" } : Jvm.MethodName)) ∈ ab_GW := ab_gw 357 (by decide +kernel) rfl
theorem w_358 : (Jvm.Cond.code ({ cls := "DominoKing$Text", name := "gives", desc := "(III)I" } : Jvm.MethodName) prog_8_method_2_code (6 : Nat) (Option.some Jvm.ClassFile.FieldType.int)) ∈ ab_GW := ab_gw 358 (by decide +kernel) rfl
theorem w_359 : (Jvm.Cond.methodLink "DominoKing$Text" (26 : Nat) ({ cls := "DominoKing$Text", name := "named", desc := "(IIII)I" } : Jvm.MethodName)) ∈ ab_GW := ab_gw 359 (by decide +kernel) rfl
theorem w_360 : (Jvm.Cond.static ({ cls := "DominoKing$Text", name := "named", desc := "(IIII)I" } : Jvm.MethodName)) ∈ ab_GW := ab_gw 360 (by decide +kernel) rfl
theorem w_361 : (Jvm.Cond.code ({ cls := "DominoKing$Text", name := "named", desc := "(IIII)I" } : Jvm.MethodName) prog_8_method_3_code (4 : Nat) (Option.some Jvm.ClassFile.FieldType.int)) ∈ ab_GW := ab_gw 361 (by decide +kernel) rfl
theorem w_362 : (Jvm.Cond.methodLink "DominoKing$Text" (30 : Nat) ({ cls := "DominoKing$Text", name := "truth", desc := "(Z)I" } : Jvm.MethodName)) ∈ ab_GW := ab_gw 362 (by decide +kernel) rfl
theorem w_363 : (Jvm.Cond.static ({ cls := "DominoKing$Text", name := "truth", desc := "(Z)I" } : Jvm.MethodName)) ∈ ab_GW := ab_gw 363 (by decide +kernel) rfl
theorem w_364 : (Jvm.Cond.code ({ cls := "DominoKing$Text", name := "truth", desc := "(Z)I" } : Jvm.MethodName) prog_8_method_5_code (1 : Nat) (Option.some Jvm.ClassFile.FieldType.int)) ∈ ab_GW := ab_gw 364 (by decide +kernel) rfl
theorem w_365 : (Jvm.Cond.methodLink "DominoKing$Text" (34 : Nat) ({ cls := "DominoKing$Text", name := "joined", desc := "(III)I" } : Jvm.MethodName)) ∈ ab_GW := ab_gw 365 (by decide +kernel) rfl
theorem w_366 : (Jvm.Cond.static ({ cls := "DominoKing$Text", name := "joined", desc := "(III)I" } : Jvm.MethodName)) ∈ ab_GW := ab_gw 366 (by decide +kernel) rfl
theorem w_367 : (Jvm.Cond.code ({ cls := "DominoKing$Text", name := "joined", desc := "(III)I" } : Jvm.MethodName) prog_8_method_4_code (3 : Nat) (Option.some Jvm.ClassFile.FieldType.int)) ∈ ab_GW := ab_gw 367 (by decide +kernel) rfl
theorem w_369 : (Jvm.Cond.static ({ cls := "DominoKing", name := "clamp", desc := "(III)I" } : Jvm.MethodName)) ∈ ab_GW := ab_gw 369 (by decide +kernel) rfl
theorem w_370 : (Jvm.Cond.code ({ cls := "DominoKing", name := "clamp", desc := "(III)I" } : Jvm.MethodName) prog_1_method_51_code (3 : Nat) (Option.some Jvm.ClassFile.FieldType.int)) ∈ ab_GW := ab_gw 370 (by decide +kernel) rfl
theorem w_371 : (Jvm.Cond.methodLink "DominoKing" (131 : Nat) ({ cls := "java/lang/Math", name := "min", desc := "(II)I" } : Jvm.MethodName)) ∈ ab_GW := ab_gw 371 (by decide +kernel) rfl
theorem w_372 : (Jvm.Cond.static ({ cls := "java/lang/Math", name := "min", desc := "(II)I" } : Jvm.MethodName)) ∈ ab_GW := ab_gw 372 (by decide +kernel) rfl
theorem w_373 : (Jvm.Cond.code ({ cls := "java/lang/Math", name := "min", desc := "(II)I" } : Jvm.MethodName) prog_15_method_69_code (2 : Nat) (Option.some Jvm.ClassFile.FieldType.int)) ∈ ab_GW := ab_gw 373 (by decide +kernel) rfl
theorem w_374 : (Jvm.Cond.methodLink "DominoKing" (322 : Nat) ({ cls := "java/lang/Math", name := "max", desc := "(II)I" } : Jvm.MethodName)) ∈ ab_GW := ab_gw 374 (by decide +kernel) rfl
theorem w_375 : (Jvm.Cond.static ({ cls := "java/lang/Math", name := "max", desc := "(II)I" } : Jvm.MethodName)) ∈ ab_GW := ab_gw 375 (by decide +kernel) rfl
theorem w_376 : (Jvm.Cond.code ({ cls := "java/lang/Math", name := "max", desc := "(II)I" } : Jvm.MethodName) prog_15_method_65_code (2 : Nat) (Option.some Jvm.ClassFile.FieldType.int)) ∈ ab_GW := ab_gw 376 (by decide +kernel) rfl
theorem w_377 : (Jvm.Cond.methodLink "DominoKing$Table" (117 : Nat) ({ cls := "DominoKing$Kinds", name := "dark", desc := "(II)I" } : Jvm.MethodName)) ∈ ab_GW := ab_gw 377 (by decide +kernel) rfl
theorem w_378 : (Jvm.Cond.static ({ cls := "DominoKing$Kinds", name := "dark", desc := "(II)I" } : Jvm.MethodName)) ∈ ab_GW := ab_gw 378 (by decide +kernel) rfl
theorem w_379 : (Jvm.Cond.code ({ cls := "DominoKing$Kinds", name := "dark", desc := "(II)I" } : Jvm.MethodName) prog_2_method_3_code (4 : Nat) (Option.some Jvm.ClassFile.FieldType.int)) ∈ ab_GW := ab_gw 379 (by decide +kernel) rfl
theorem w_380 : (Jvm.Cond.methodLink "DominoKing$Kinds" (13 : Nat) ({ cls := "java/lang/Math", name := "max", desc := "(II)I" } : Jvm.MethodName)) ∈ ab_GW := ab_gw 380 (by decide +kernel) rfl
theorem w_381 : (Jvm.Cond.methodLink "DominoKing$Kinds" (19 : Nat) ({ cls := "java/lang/Math", name := "min", desc := "(II)I" } : Jvm.MethodName)) ∈ ab_GW := ab_gw 381 (by decide +kernel) rfl
theorem w_382 : (Jvm.Cond.methodLink "DominoKingLaw" (18 : Nat) ({ cls := "DominoKing", name := "told", desc := "(II)I" } : Jvm.MethodName)) ∈ ab_GW := ab_gw 382 (by decide +kernel) rfl
theorem w_383 : (Jvm.Cond.instanceMethod ({ cls := "DominoKing", name := "told", desc := "(II)I" } : Jvm.MethodName)) ∈ ab_GW := ab_gw 383 (by decide +kernel) rfl
theorem w_384 : (Jvm.Cond.selects "DominoKing" ({ cls := "DominoKing", name := "told", desc := "(II)I" } : Jvm.MethodName) ({ cls := "DominoKing", name := "told", desc := "(II)I" } : Jvm.MethodName)) ∈ ab_GW := ab_gw 384 (by decide +kernel) rfl
theorem w_385 : (Jvm.Cond.code ({ cls := "DominoKing", name := "told", desc := "(II)I" } : Jvm.MethodName) prog_1_method_3_code (3 : Nat) (Option.some Jvm.ClassFile.FieldType.int)) ∈ ab_GW := ab_gw 385 (by decide +kernel) rfl
theorem w_386 : (Jvm.Cond.methodLink "DominoKing" (74 : Nat) ({ cls := "DominoKing", name := "isStone", desc := "(I)Z" } : Jvm.MethodName)) ∈ ab_GW := ab_gw 386 (by decide +kernel) rfl
theorem w_388 : (Jvm.Cond.instanceMethod ({ cls := "DominoKing", name := "isStone", desc := "(I)Z" } : Jvm.MethodName)) ∈ ab_GW := ab_gw 388 (by decide +kernel) rfl
theorem w_389 : (Jvm.Cond.code ({ cls := "DominoKing", name := "isStone", desc := "(I)Z" } : Jvm.MethodName) prog_1_method_46_code (2 : Nat) (Option.some Jvm.ClassFile.FieldType.boolean)) ∈ ab_GW := ab_gw 389 (by decide +kernel) rfl
theorem w_390 : (Jvm.Cond.methodLink "DominoKing" (93 : Nat) ({ cls := "DominoKing$Table", name := "heavy", desc := "(I)I" } : Jvm.MethodName)) ∈ ab_GW := ab_gw 390 (by decide +kernel) rfl
theorem w_391 : (Jvm.Cond.methodLink "DominoKing" (97 : Nat) ({ cls := "DominoKing$Kinds", name := "worth", desc := "(III)I" } : Jvm.MethodName)) ∈ ab_GW := ab_gw 391 (by decide +kernel) rfl
theorem w_392 : (Jvm.Cond.static ({ cls := "DominoKing$Kinds", name := "worth", desc := "(III)I" } : Jvm.MethodName)) ∈ ab_GW := ab_gw 392 (by decide +kernel) rfl
theorem w_393 : (Jvm.Cond.code ({ cls := "DominoKing$Kinds", name := "worth", desc := "(III)I" } : Jvm.MethodName) prog_2_method_5_code (4 : Nat) (Option.some Jvm.ClassFile.FieldType.int)) ∈ ab_GW := ab_gw 393 (by decide +kernel) rfl
theorem w_394 : (Jvm.Cond.methodLink "DominoKingLaw" (23 : Nat) ({ cls := "DominoKing", name := "off", desc := "(III)I" } : Jvm.MethodName)) ∈ ab_GW := ab_gw 394 (by decide +kernel) rfl
theorem w_395 : (Jvm.Cond.instanceMethod ({ cls := "DominoKing", name := "off", desc := "(III)I" } : Jvm.MethodName)) ∈ ab_GW := ab_gw 395 (by decide +kernel) rfl
theorem w_396 : (Jvm.Cond.selects "DominoKing" ({ cls := "DominoKing", name := "off", desc := "(III)I" } : Jvm.MethodName) ({ cls := "DominoKing", name := "off", desc := "(III)I" } : Jvm.MethodName)) ∈ ab_GW := ab_gw 396 (by decide +kernel) rfl
theorem w_397 : (Jvm.Cond.code ({ cls := "DominoKing", name := "off", desc := "(III)I" } : Jvm.MethodName) prog_1_method_4_code (4 : Nat) (Option.some Jvm.ClassFile.FieldType.int)) ∈ ab_GW := ab_gw 397 (by decide +kernel) rfl
theorem w_398 : (Jvm.Cond.methodLink "DominoKing" (102 : Nat) ({ cls := "DominoKing", name := "isPlace", desc := "(I)Z" } : Jvm.MethodName)) ∈ ab_GW := ab_gw 398 (by decide +kernel) rfl
theorem w_399 : (Jvm.Cond.static ({ cls := "DominoKing", name := "isPlace", desc := "(I)Z" } : Jvm.MethodName)) ∈ ab_GW := ab_gw 399 (by decide +kernel) rfl
theorem w_400 : (Jvm.Cond.code ({ cls := "DominoKing", name := "isPlace", desc := "(I)Z" } : Jvm.MethodName) prog_1_method_47_code (1 : Nat) (Option.some Jvm.ClassFile.FieldType.boolean)) ∈ ab_GW := ab_gw 400 (by decide +kernel) rfl
theorem w_401 : (Jvm.Cond.methodLink "DominoKing" (105 : Nat) ({ cls := "DominoKing$Table", name := "offAt", desc := "(III)I" } : Jvm.MethodName)) ∈ ab_GW := ab_gw 401 (by decide +kernel) rfl
theorem w_402 : (Jvm.Cond.instanceMethod ({ cls := "DominoKing$Table", name := "offAt", desc := "(III)I" } : Jvm.MethodName)) ∈ ab_GW := ab_gw 402 (by decide +kernel) rfl
theorem w_403 : (Jvm.Cond.selects "DominoKing$Table" ({ cls := "DominoKing$Table", name := "offAt", desc := "(III)I" } : Jvm.MethodName) ({ cls := "DominoKing$Table", name := "offAt", desc := "(III)I" } : Jvm.MethodName)) ∈ ab_GW := ab_gw 403 (by decide +kernel) rfl
theorem w_404 : (Jvm.Cond.code ({ cls := "DominoKing$Table", name := "offAt", desc := "(III)I" } : Jvm.MethodName) prog_6_method_14_code (7 : Nat) (Option.some Jvm.ClassFile.FieldType.int)) ∈ ab_GW := ab_gw 404 (by decide +kernel) rfl
theorem w_405 : (Jvm.Cond.methodLink "DominoKing$Table" (125 : Nat) ({ cls := "java/lang/Math", name := "abs", desc := "(I)I" } : Jvm.MethodName)) ∈ ab_GW := ab_gw 405 (by decide +kernel) rfl
theorem w_406 : (Jvm.Cond.static ({ cls := "java/lang/Math", name := "abs", desc := "(I)I" } : Jvm.MethodName)) ∈ ab_GW := ab_gw 406 (by decide +kernel) rfl
theorem w_407 : (Jvm.Cond.code ({ cls := "java/lang/Math", name := "abs", desc := "(I)I" } : Jvm.MethodName) prog_15_method_59_code (1 : Nat) (Option.some Jvm.ClassFile.FieldType.int)) ∈ ab_GW := ab_gw 407 (by decide +kernel) rfl
theorem w_408 : (Jvm.Cond.methodLink "DominoKingLaw" (27 : Nat) ({ cls := "DominoKing", name := "as", desc := "(II)I" } : Jvm.MethodName)) ∈ ab_GW := ab_gw 408 (by decide +kernel) rfl
theorem w_409 : (Jvm.Cond.instanceMethod ({ cls := "DominoKing", name := "as", desc := "(II)I" } : Jvm.MethodName)) ∈ ab_GW := ab_gw 409 (by decide +kernel) rfl
theorem w_410 : (Jvm.Cond.selects "DominoKing" ({ cls := "DominoKing", name := "as", desc := "(II)I" } : Jvm.MethodName) ({ cls := "DominoKing", name := "as", desc := "(II)I" } : Jvm.MethodName)) ∈ ab_GW := ab_gw 410 (by decide +kernel) rfl
theorem w_411 : (Jvm.Cond.code ({ cls := "DominoKing", name := "as", desc := "(II)I" } : Jvm.MethodName) prog_1_method_5_code (3 : Nat) (Option.some Jvm.ClassFile.FieldType.int)) ∈ ab_GW := ab_gw 411 (by decide +kernel) rfl
theorem w_412 : (Jvm.Cond.methodLink "DominoKing" (108 : Nat) ({ cls := "DominoKing$Kinds", name := "isOf", desc := "(II)Z" } : Jvm.MethodName)) ∈ ab_GW := ab_gw 412 (by decide +kernel) rfl
theorem w_413 : (Jvm.Cond.static ({ cls := "DominoKing$Kinds", name := "isOf", desc := "(II)Z" } : Jvm.MethodName)) ∈ ab_GW := ab_gw 413 (by decide +kernel) rfl
theorem w_414 : (Jvm.Cond.code ({ cls := "DominoKing$Kinds", name := "isOf", desc := "(II)Z" } : Jvm.MethodName) prog_2_method_2_code (3 : Nat) (Option.some Jvm.ClassFile.FieldType.boolean)) ∈ ab_GW := ab_gw 414 (by decide +kernel) rfl
theorem w_417 : (Jvm.Cond.constant "DominoKing" (112 : Nat) (-1000000012 : Int32)) ∈ ab_GW := ab_gw 417 (by decide +kernel) rfl
theorem w_418 : (Jvm.Cond.methodLink "DominoKingLaw" (31 : Nat) ({ cls := "DominoKing", name := "turns", desc := "(II)I" } : Jvm.MethodName)) ∈ ab_GW := ab_gw 418 (by decide +kernel) rfl
theorem w_419 : (Jvm.Cond.instanceMethod ({ cls := "DominoKing", name := "turns", desc := "(II)I" } : Jvm.MethodName)) ∈ ab_GW := ab_gw 419 (by decide +kernel) rfl
theorem w_420 : (Jvm.Cond.selects "DominoKing" ({ cls := "DominoKing", name := "turns", desc := "(II)I" } : Jvm.MethodName) ({ cls := "DominoKing", name := "turns", desc := "(II)I" } : Jvm.MethodName)) ∈ ab_GW := ab_gw 420 (by decide +kernel) rfl
theorem w_421 : (Jvm.Cond.code ({ cls := "DominoKing", name := "turns", desc := "(II)I" } : Jvm.MethodName) prog_1_method_6_code (4 : Nat) (Option.some Jvm.ClassFile.FieldType.int)) ∈ ab_GW := ab_gw 421 (by decide +kernel) rfl
theorem w_422 : (Jvm.Cond.methodLink "DominoKing" (113 : Nat) ({ cls := "DominoKing$Table", name := "darken", desc := "(I)V" } : Jvm.MethodName)) ∈ ab_GW := ab_gw 422 (by decide +kernel) rfl
theorem w_423 : (Jvm.Cond.methodLink "DominoKingLaw" (35 : Nat) ({ cls := "DominoKing", name := "put", desc := "(III)I" } : Jvm.MethodName)) ∈ ab_GW := ab_gw 423 (by decide +kernel) rfl
theorem w_424 : (Jvm.Cond.instanceMethod ({ cls := "DominoKing", name := "put", desc := "(III)I" } : Jvm.MethodName)) ∈ ab_GW := ab_gw 424 (by decide +kernel) rfl
theorem w_425 : (Jvm.Cond.selects "DominoKing" ({ cls := "DominoKing", name := "put", desc := "(III)I" } : Jvm.MethodName) ({ cls := "DominoKing", name := "put", desc := "(III)I" } : Jvm.MethodName)) ∈ ab_GW := ab_gw 425 (by decide +kernel) rfl
theorem w_426 : (Jvm.Cond.code ({ cls := "DominoKing", name := "put", desc := "(III)I" } : Jvm.MethodName) prog_1_method_7_code (5 : Nat) (Option.some Jvm.ClassFile.FieldType.int)) ∈ ab_GW := ab_gw 426 (by decide +kernel) rfl
theorem w_427 : (Jvm.Cond.constant "DominoKing" (120 : Nat) (-1000000002 : Int32)) ∈ ab_GW := ab_gw 427 (by decide +kernel) rfl
theorem w_428 : (Jvm.Cond.methodLink "DominoKing" (121 : Nat) ({ cls := "DominoKing$Table", name := "moveTo", desc := "(II)V" } : Jvm.MethodName)) ∈ ab_GW := ab_gw 428 (by decide +kernel) rfl
theorem w_429 : (Jvm.Cond.instanceMethod ({ cls := "DominoKing$Table", name := "moveTo", desc := "(II)V" } : Jvm.MethodName)) ∈ ab_GW := ab_gw 429 (by decide +kernel) rfl
theorem w_430 : (Jvm.Cond.selects "DominoKing$Table" ({ cls := "DominoKing$Table", name := "moveTo", desc := "(II)V" } : Jvm.MethodName) ({ cls := "DominoKing$Table", name := "moveTo", desc := "(II)V" } : Jvm.MethodName)) ∈ ab_GW := ab_gw 430 (by decide +kernel) rfl
theorem w_431 : (Jvm.Cond.code ({ cls := "DominoKing$Table", name := "moveTo", desc := "(II)V" } : Jvm.MethodName) prog_6_method_17_code (3 : Nat) (Option.none : Option Jvm.ClassFile.FieldType)) ∈ ab_GW := ab_gw 431 (by decide +kernel) rfl
theorem w_432 : (Jvm.Cond.methodLink "DominoKing$Table" (136 : Nat) ({ cls := "DominoKing$Table", name := "isLaid", desc := "(I)Z" } : Jvm.MethodName)) ∈ ab_GW := ab_gw 432 (by decide +kernel) rfl
theorem w_433 : (Jvm.Cond.instanceMethod ({ cls := "DominoKing$Table", name := "isLaid", desc := "(I)Z" } : Jvm.MethodName)) ∈ ab_GW := ab_gw 433 (by decide +kernel) rfl
theorem w_434 : (Jvm.Cond.selects "DominoKing$Table" ({ cls := "DominoKing$Table", name := "isLaid", desc := "(I)Z" } : Jvm.MethodName) ({ cls := "DominoKing$Table", name := "isLaid", desc := "(I)Z" } : Jvm.MethodName)) ∈ ab_GW := ab_gw 434 (by decide +kernel) rfl
theorem w_435 : (Jvm.Cond.code ({ cls := "DominoKing$Table", name := "isLaid", desc := "(I)Z" } : Jvm.MethodName) prog_6_method_16_code (2 : Nat) (Option.some Jvm.ClassFile.FieldType.boolean)) ∈ ab_GW := ab_gw 435 (by decide +kernel) rfl
theorem w_436 : (Jvm.Cond.methodLink "DominoKingLaw" (39 : Nat) ({ cls := "DominoKing", name := "box", desc := "(I)I" } : Jvm.MethodName)) ∈ ab_GW := ab_gw 436 (by decide +kernel) rfl
theorem w_437 : (Jvm.Cond.instanceMethod ({ cls := "DominoKing", name := "box", desc := "(I)I" } : Jvm.MethodName)) ∈ ab_GW := ab_gw 437 (by decide +kernel) rfl
theorem w_438 : (Jvm.Cond.selects "DominoKing" ({ cls := "DominoKing", name := "box", desc := "(I)I" } : Jvm.MethodName) ({ cls := "DominoKing", name := "box", desc := "(I)I" } : Jvm.MethodName)) ∈ ab_GW := ab_gw 438 (by decide +kernel) rfl
theorem w_439 : (Jvm.Cond.code ({ cls := "DominoKing", name := "box", desc := "(I)I" } : Jvm.MethodName) prog_1_method_8_code (3 : Nat) (Option.some Jvm.ClassFile.FieldType.int)) ∈ ab_GW := ab_gw 439 (by decide +kernel) rfl
theorem w_440 : (Jvm.Cond.methodLink "DominoKingLaw" (44 : Nat) ({ cls := "DominoKing", name := "want", desc := "(II)I" } : Jvm.MethodName)) ∈ ab_GW := ab_gw 440 (by decide +kernel) rfl
theorem w_441 : (Jvm.Cond.instanceMethod ({ cls := "DominoKing", name := "want", desc := "(II)I" } : Jvm.MethodName)) ∈ ab_GW := ab_gw 441 (by decide +kernel) rfl
theorem w_442 : (Jvm.Cond.selects "DominoKing" ({ cls := "DominoKing", name := "want", desc := "(II)I" } : Jvm.MethodName) ({ cls := "DominoKing", name := "want", desc := "(II)I" } : Jvm.MethodName)) ∈ ab_GW := ab_gw 442 (by decide +kernel) rfl
theorem w_443 : (Jvm.Cond.code ({ cls := "DominoKing", name := "want", desc := "(II)I" } : Jvm.MethodName) prog_1_method_9_code (4 : Nat) (Option.some Jvm.ClassFile.FieldType.int)) ∈ ab_GW := ab_gw 443 (by decide +kernel) rfl
theorem w_444 : (Jvm.Cond.methodLink "DominoKingLaw" (48 : Nat) ({ cls := "DominoKing", name := "wind", desc := "(I)I" } : Jvm.MethodName)) ∈ ab_GW := ab_gw 444 (by decide +kernel) rfl
theorem w_445 : (Jvm.Cond.instanceMethod ({ cls := "DominoKing", name := "wind", desc := "(I)I" } : Jvm.MethodName)) ∈ ab_GW := ab_gw 445 (by decide +kernel) rfl
theorem w_446 : (Jvm.Cond.selects "DominoKing" ({ cls := "DominoKing", name := "wind", desc := "(I)I" } : Jvm.MethodName) ({ cls := "DominoKing", name := "wind", desc := "(I)I" } : Jvm.MethodName)) ∈ ab_GW := ab_gw 446 (by decide +kernel) rfl
theorem w_447 : (Jvm.Cond.code ({ cls := "DominoKing", name := "wind", desc := "(I)I" } : Jvm.MethodName) prog_1_method_10_code (3 : Nat) (Option.some Jvm.ClassFile.FieldType.int)) ∈ ab_GW := ab_gw 447 (by decide +kernel) rfl
theorem w_448 : (Jvm.Cond.methodLink "DominoKingLaw" (52 : Nat) ({ cls := "DominoKing", name := "deal", desc := "(I)I" } : Jvm.MethodName)) ∈ ab_GW := ab_gw 448 (by decide +kernel) rfl
theorem w_449 : (Jvm.Cond.instanceMethod ({ cls := "DominoKing", name := "deal", desc := "(I)I" } : Jvm.MethodName)) ∈ ab_GW := ab_gw 449 (by decide +kernel) rfl
theorem w_450 : (Jvm.Cond.selects "DominoKing" ({ cls := "DominoKing", name := "deal", desc := "(I)I" } : Jvm.MethodName) ({ cls := "DominoKing", name := "deal", desc := "(I)I" } : Jvm.MethodName)) ∈ ab_GW := ab_gw 450 (by decide +kernel) rfl
theorem w_451 : (Jvm.Cond.code ({ cls := "DominoKing", name := "deal", desc := "(I)I" } : Jvm.MethodName) prog_1_method_11_code (4 : Nat) (Option.some Jvm.ClassFile.FieldType.int)) ∈ ab_GW := ab_gw 451 (by decide +kernel) rfl
theorem w_452 : (Jvm.Cond.methodLink "DominoKing" (137 : Nat) ({ cls := "DominoKing$Table", name := "drawStone", desc := "()V" } : Jvm.MethodName)) ∈ ab_GW := ab_gw 452 (by decide +kernel) rfl
theorem w_453 : (Jvm.Cond.instanceMethod ({ cls := "DominoKing$Table", name := "drawStone", desc := "()V" } : Jvm.MethodName)) ∈ ab_GW := ab_gw 453 (by decide +kernel) rfl
theorem w_454 : (Jvm.Cond.selects "DominoKing$Table" ({ cls := "DominoKing$Table", name := "drawStone", desc := "()V" } : Jvm.MethodName) ({ cls := "DominoKing$Table", name := "drawStone", desc := "()V" } : Jvm.MethodName)) ∈ ab_GW := ab_gw 454 (by decide +kernel) rfl
theorem w_455 : (Jvm.Cond.code ({ cls := "DominoKing$Table", name := "drawStone", desc := "()V" } : Jvm.MethodName) prog_6_method_4_code (4 : Nat) (Option.none : Option Jvm.ClassFile.FieldType)) ∈ ab_GW := ab_gw 455 (by decide +kernel) rfl
theorem w_456 : (Jvm.Cond.methodLink "DominoKing$Table" (77 : Nat) ({ cls := "DominoKing$Table", name := "draw", desc := "()I" } : Jvm.MethodName)) ∈ ab_GW := ab_gw 456 (by decide +kernel) rfl
theorem w_457 : (Jvm.Cond.instanceMethod ({ cls := "DominoKing$Table", name := "draw", desc := "()I" } : Jvm.MethodName)) ∈ ab_GW := ab_gw 457 (by decide +kernel) rfl
theorem w_458 : (Jvm.Cond.selects "DominoKing$Table" ({ cls := "DominoKing$Table", name := "draw", desc := "()I" } : Jvm.MethodName) ({ cls := "DominoKing$Table", name := "draw", desc := "()I" } : Jvm.MethodName)) ∈ ab_GW := ab_gw 458 (by decide +kernel) rfl
theorem w_459 : (Jvm.Cond.code ({ cls := "DominoKing$Table", name := "draw", desc := "()I" } : Jvm.MethodName) prog_6_method_5_code (1 : Nat) (Option.some Jvm.ClassFile.FieldType.int)) ∈ ab_GW := ab_gw 459 (by decide +kernel) rfl
theorem w_460 : (Jvm.Cond.constant "DominoKing$Table" (85 : Nat) (1103515245 : Int32)) ∈ ab_GW := ab_gw 460 (by decide +kernel) rfl
theorem w_461 : (Jvm.Cond.methodLink "DominoKing$Table" (81 : Nat) ({ cls := "DominoKing$Table", name := "addStone", desc := "(III)I" } : Jvm.MethodName)) ∈ ab_GW := ab_gw 461 (by decide +kernel) rfl
theorem w_462 : (Jvm.Cond.methodLink "DominoKingLaw" (56 : Nat) ({ cls := "DominoKing", name := "seed", desc := "(I)I" } : Jvm.MethodName)) ∈ ab_GW := ab_gw 462 (by decide +kernel) rfl
theorem w_463 : (Jvm.Cond.instanceMethod ({ cls := "DominoKing", name := "seed", desc := "(I)I" } : Jvm.MethodName)) ∈ ab_GW := ab_gw 463 (by decide +kernel) rfl
theorem w_464 : (Jvm.Cond.selects "DominoKing" ({ cls := "DominoKing", name := "seed", desc := "(I)I" } : Jvm.MethodName) ({ cls := "DominoKing", name := "seed", desc := "(I)I" } : Jvm.MethodName)) ∈ ab_GW := ab_gw 464 (by decide +kernel) rfl
theorem w_465 : (Jvm.Cond.code ({ cls := "DominoKing", name := "seed", desc := "(I)I" } : Jvm.MethodName) prog_1_method_12_code (3 : Nat) (Option.some Jvm.ClassFile.FieldType.int)) ∈ ab_GW := ab_gw 465 (by decide +kernel) rfl
theorem w_466 : (Jvm.Cond.methodLink "DominoKingLaw" (60 : Nat) ({ cls := "DominoKing", name := "days", desc := "(I)I" } : Jvm.MethodName)) ∈ ab_GW := ab_gw 466 (by decide +kernel) rfl
theorem w_467 : (Jvm.Cond.instanceMethod ({ cls := "DominoKing", name := "days", desc := "(I)I" } : Jvm.MethodName)) ∈ ab_GW := ab_gw 467 (by decide +kernel) rfl
theorem w_468 : (Jvm.Cond.selects "DominoKing" ({ cls := "DominoKing", name := "days", desc := "(I)I" } : Jvm.MethodName) ({ cls := "DominoKing", name := "days", desc := "(I)I" } : Jvm.MethodName)) ∈ ab_GW := ab_gw 468 (by decide +kernel) rfl
theorem w_469 : (Jvm.Cond.code ({ cls := "DominoKing", name := "days", desc := "(I)I" } : Jvm.MethodName) prog_1_method_13_code (3 : Nat) (Option.some Jvm.ClassFile.FieldType.int)) ∈ ab_GW := ab_gw 469 (by decide +kernel) rfl
theorem w_470 : (Jvm.Cond.methodLink "DominoKing" (143 : Nat) ({ cls := "DominoKing$Table", name := "laidStones", desc := "()I" } : Jvm.MethodName)) ∈ ab_GW := ab_gw 470 (by decide +kernel) rfl
theorem w_471 : (Jvm.Cond.instanceMethod ({ cls := "DominoKing$Table", name := "laidStones", desc := "()I" } : Jvm.MethodName)) ∈ ab_GW := ab_gw 471 (by decide +kernel) rfl
theorem w_472 : (Jvm.Cond.selects "DominoKing$Table" ({ cls := "DominoKing$Table", name := "laidStones", desc := "()I" } : Jvm.MethodName) ({ cls := "DominoKing$Table", name := "laidStones", desc := "()I" } : Jvm.MethodName)) ∈ ab_GW := ab_gw 472 (by decide +kernel) rfl
theorem w_473 : (Jvm.Cond.code ({ cls := "DominoKing$Table", name := "laidStones", desc := "()I" } : Jvm.MethodName) prog_6_method_21_code (1 : Nat) (Option.some Jvm.ClassFile.FieldType.int)) ∈ ab_GW := ab_gw 473 (by decide +kernel) rfl
theorem w_474 : (Jvm.Cond.methodLink "DominoKing$Table" (147 : Nat) ({ cls := "DominoKing$Table", name := "placesHeld", desc := "()I" } : Jvm.MethodName)) ∈ ab_GW := ab_gw 474 (by decide +kernel) rfl
theorem w_475 : (Jvm.Cond.instanceMethod ({ cls := "DominoKing$Table", name := "placesHeld", desc := "()I" } : Jvm.MethodName)) ∈ ab_GW := ab_gw 475 (by decide +kernel) rfl
theorem w_476 : (Jvm.Cond.selects "DominoKing$Table" ({ cls := "DominoKing$Table", name := "placesHeld", desc := "()I" } : Jvm.MethodName) ({ cls := "DominoKing$Table", name := "placesHeld", desc := "()I" } : Jvm.MethodName)) ∈ ab_GW := ab_gw 476 (by decide +kernel) rfl
theorem w_477 : (Jvm.Cond.code ({ cls := "DominoKing$Table", name := "placesHeld", desc := "()I" } : Jvm.MethodName) prog_6_method_22_code (3 : Nat) (Option.some Jvm.ClassFile.FieldType.int)) ∈ ab_GW := ab_gw 477 (by decide +kernel) rfl
theorem w_478 : (Jvm.Cond.methodLink "DominoKing$Table" (150 : Nat) ({ cls := "java/lang/Integer", name := "bitCount", desc := "(I)I" } : Jvm.MethodName)) ∈ ab_GW := ab_gw 478 (by decide +kernel) rfl
theorem w_479 : (Jvm.Cond.static ({ cls := "java/lang/Integer", name := "bitCount", desc := "(I)I" } : Jvm.MethodName)) ∈ ab_GW := ab_gw 479 (by decide +kernel) rfl
theorem w_480 : (Jvm.Cond.code ({ cls := "java/lang/Integer", name := "bitCount", desc := "(I)I" } : Jvm.MethodName) prog_14_method_49_code (1 : Nat) (Option.some Jvm.ClassFile.FieldType.int)) ∈ ab_GW := ab_gw 480 (by decide +kernel) rfl
theorem w_481 : (Jvm.Cond.constant "java/lang/Integer" (265 : Nat) (1431655765 : Int32)) ∈ ab_GW := ab_gw 481 (by decide +kernel) rfl
theorem w_482 : (Jvm.Cond.constant "java/lang/Integer" (266 : Nat) (858993459 : Int32)) ∈ ab_GW := ab_gw 482 (by decide +kernel) rfl
theorem w_483 : (Jvm.Cond.constant "java/lang/Integer" (267 : Nat) (252645135 : Int32)) ∈ ab_GW := ab_gw 483 (by decide +kernel) rfl
theorem w_484 : (Jvm.Cond.methodLink "DominoKing" (150 : Nat) ({ cls := "DominoKing$Table", name := "passDays", desc := "(I)V" } : Jvm.MethodName)) ∈ ab_GW := ab_gw 484 (by decide +kernel) rfl
theorem w_485 : (Jvm.Cond.instanceMethod ({ cls := "DominoKing$Table", name := "passDays", desc := "(I)V" } : Jvm.MethodName)) ∈ ab_GW := ab_gw 485 (by decide +kernel) rfl
theorem w_486 : (Jvm.Cond.selects "DominoKing$Table" ({ cls := "DominoKing$Table", name := "passDays", desc := "(I)V" } : Jvm.MethodName) ({ cls := "DominoKing$Table", name := "passDays", desc := "(I)V" } : Jvm.MethodName)) ∈ ab_GW := ab_gw 486 (by decide +kernel) rfl
theorem w_487 : (Jvm.Cond.code ({ cls := "DominoKing$Table", name := "passDays", desc := "(I)V" } : Jvm.MethodName) prog_6_method_23_code (3 : Nat) (Option.none : Option Jvm.ClassFile.FieldType)) ∈ ab_GW := ab_gw 487 (by decide +kernel) rfl
theorem w_488 : (Jvm.Cond.methodLink "DominoKing$Table" (155 : Nat) ({ cls := "DominoKing$Table", name := "passDay", desc := "()V" } : Jvm.MethodName)) ∈ ab_GW := ab_gw 488 (by decide +kernel) rfl
theorem w_489 : (Jvm.Cond.instanceMethod ({ cls := "DominoKing$Table", name := "passDay", desc := "()V" } : Jvm.MethodName)) ∈ ab_GW := ab_gw 489 (by decide +kernel) rfl
theorem w_490 : (Jvm.Cond.selects "DominoKing$Table" ({ cls := "DominoKing$Table", name := "passDay", desc := "()V" } : Jvm.MethodName) ({ cls := "DominoKing$Table", name := "passDay", desc := "()V" } : Jvm.MethodName)) ∈ ab_GW := ab_gw 490 (by decide +kernel) rfl
theorem w_491 : (Jvm.Cond.code ({ cls := "DominoKing$Table", name := "passDay", desc := "()V" } : Jvm.MethodName) prog_6_method_24_code (2 : Nat) (Option.none : Option Jvm.ClassFile.FieldType)) ∈ ab_GW := ab_gw 491 (by decide +kernel) rfl
theorem w_492 : (Jvm.Cond.methodLink "DominoKing$Table" (158 : Nat) ({ cls := "DominoKing$Table", name := "firstEmptyIn", desc := "(I)I" } : Jvm.MethodName)) ∈ ab_GW := ab_gw 492 (by decide +kernel) rfl
theorem w_493 : (Jvm.Cond.instanceMethod ({ cls := "DominoKing$Table", name := "firstEmptyIn", desc := "(I)I" } : Jvm.MethodName)) ∈ ab_GW := ab_gw 493 (by decide +kernel) rfl
theorem w_494 : (Jvm.Cond.selects "DominoKing$Table" ({ cls := "DominoKing$Table", name := "firstEmptyIn", desc := "(I)I" } : Jvm.MethodName) ({ cls := "DominoKing$Table", name := "firstEmptyIn", desc := "(I)I" } : Jvm.MethodName)) ∈ ab_GW := ab_gw 494 (by decide +kernel) rfl
theorem w_495 : (Jvm.Cond.code ({ cls := "DominoKing$Table", name := "firstEmptyIn", desc := "(I)I" } : Jvm.MethodName) prog_6_method_25_code (4 : Nat) (Option.some Jvm.ClassFile.FieldType.int)) ∈ ab_GW := ab_gw 495 (by decide +kernel) rfl
theorem w_496 : (Jvm.Cond.methodLink "DominoKing$Table" (161 : Nat) ({ cls := "DominoKing$Table", name := "layBestAt", desc := "(I)V" } : Jvm.MethodName)) ∈ ab_GW := ab_gw 496 (by decide +kernel) rfl
theorem w_497 : (Jvm.Cond.instanceMethod ({ cls := "DominoKing$Table", name := "layBestAt", desc := "(I)V" } : Jvm.MethodName)) ∈ ab_GW := ab_gw 497 (by decide +kernel) rfl
theorem w_498 : (Jvm.Cond.selects "DominoKing$Table" ({ cls := "DominoKing$Table", name := "layBestAt", desc := "(I)V" } : Jvm.MethodName) ({ cls := "DominoKing$Table", name := "layBestAt", desc := "(I)V" } : Jvm.MethodName)) ∈ ab_GW := ab_gw 498 (by decide +kernel) rfl
theorem w_499 : (Jvm.Cond.code ({ cls := "DominoKing$Table", name := "layBestAt", desc := "(I)V" } : Jvm.MethodName) prog_6_method_26_code (8 : Nat) (Option.none : Option Jvm.ClassFile.FieldType)) ∈ ab_GW := ab_gw 499 (by decide +kernel) rfl
theorem w_500 : (Jvm.Cond.methodLink "DominoKing$Table" (130 : Nat) ({ cls := "DominoKing$Table", name := "offAt", desc := "(III)I" } : Jvm.MethodName)) ∈ ab_GW := ab_gw 500 (by decide +kernel) rfl
theorem w_501 : (Jvm.Cond.methodLink "DominoKing$Table" (167 : Nat) ({ cls := "DominoKing$Table", name := "moveTo", desc := "(II)V" } : Jvm.MethodName)) ∈ ab_GW := ab_gw 501 (by decide +kernel) rfl
theorem w_502 : (Jvm.Cond.methodLink "DominoKing$Table" (164 : Nat) ({ cls := "DominoKing$Table", name := "turnAt", desc := "(I)V" } : Jvm.MethodName)) ∈ ab_GW := ab_gw 502 (by decide +kernel) rfl
theorem w_503 : (Jvm.Cond.instanceMethod ({ cls := "DominoKing$Table", name := "turnAt", desc := "(I)V" } : Jvm.MethodName)) ∈ ab_GW := ab_gw 503 (by decide +kernel) rfl
theorem w_504 : (Jvm.Cond.selects "DominoKing$Table" ({ cls := "DominoKing$Table", name := "turnAt", desc := "(I)V" } : Jvm.MethodName) ({ cls := "DominoKing$Table", name := "turnAt", desc := "(I)V" } : Jvm.MethodName)) ∈ ab_GW := ab_gw 504 (by decide +kernel) rfl
theorem w_505 : (Jvm.Cond.code ({ cls := "DominoKing$Table", name := "turnAt", desc := "(I)V" } : Jvm.MethodName) prog_6_method_27_code (3 : Nat) (Option.none : Option Jvm.ClassFile.FieldType)) ∈ ab_GW := ab_gw 505 (by decide +kernel) rfl
theorem w_506 : (Jvm.Cond.methodLink "DominoKingLaw" (64 : Nat) ({ cls := "DominoKing", name := "king", desc := "(I)I" } : Jvm.MethodName)) ∈ ab_GW := ab_gw 506 (by decide +kernel) rfl
theorem w_507 : (Jvm.Cond.instanceMethod ({ cls := "DominoKing", name := "king", desc := "(I)I" } : Jvm.MethodName)) ∈ ab_GW := ab_gw 507 (by decide +kernel) rfl
theorem w_508 : (Jvm.Cond.selects "DominoKing" ({ cls := "DominoKing", name := "king", desc := "(I)I" } : Jvm.MethodName) ({ cls := "DominoKing", name := "king", desc := "(I)I" } : Jvm.MethodName)) ∈ ab_GW := ab_gw 508 (by decide +kernel) rfl
theorem w_509 : (Jvm.Cond.code ({ cls := "DominoKing", name := "king", desc := "(I)I" } : Jvm.MethodName) prog_1_method_14_code (2 : Nat) (Option.some Jvm.ClassFile.FieldType.int)) ∈ ab_GW := ab_gw 509 (by decide +kernel) rfl
theorem w_510 : (Jvm.Cond.methodLink "DominoKing" (153 : Nat) ({ cls := "DominoKing$Table", name := "picture", desc := "()I" } : Jvm.MethodName)) ∈ ab_GW := ab_gw 510 (by decide +kernel) rfl
theorem w_511 : (Jvm.Cond.instanceMethod ({ cls := "DominoKing$Table", name := "picture", desc := "()I" } : Jvm.MethodName)) ∈ ab_GW := ab_gw 511 (by decide +kernel) rfl
theorem w_512 : (Jvm.Cond.selects "DominoKing$Table" ({ cls := "DominoKing$Table", name := "picture", desc := "()I" } : Jvm.MethodName) ({ cls := "DominoKing$Table", name := "picture", desc := "()I" } : Jvm.MethodName)) ∈ ab_GW := ab_gw 512 (by decide +kernel) rfl
theorem w_513 : (Jvm.Cond.code ({ cls := "DominoKing$Table", name := "picture", desc := "()I" } : Jvm.MethodName) prog_6_method_18_code (4 : Nat) (Option.some Jvm.ClassFile.FieldType.int)) ∈ ab_GW := ab_gw 513 (by decide +kernel) rfl
theorem w_514 : (Jvm.Cond.methodLink "DominoKing" (156 : Nat) ({ cls := "DominoKing$Table", name := "matches", desc := "()I" } : Jvm.MethodName)) ∈ ab_GW := ab_gw 514 (by decide +kernel) rfl
theorem w_515 : (Jvm.Cond.instanceMethod ({ cls := "DominoKing$Table", name := "matches", desc := "()I" } : Jvm.MethodName)) ∈ ab_GW := ab_gw 515 (by decide +kernel) rfl
theorem w_516 : (Jvm.Cond.selects "DominoKing$Table" ({ cls := "DominoKing$Table", name := "matches", desc := "()I" } : Jvm.MethodName) ({ cls := "DominoKing$Table", name := "matches", desc := "()I" } : Jvm.MethodName)) ∈ ab_GW := ab_gw 516 (by decide +kernel) rfl
theorem w_517 : (Jvm.Cond.code ({ cls := "DominoKing$Table", name := "matches", desc := "()I" } : Jvm.MethodName) prog_6_method_19_code (4 : Nat) (Option.some Jvm.ClassFile.FieldType.int)) ∈ ab_GW := ab_gw 517 (by decide +kernel) rfl
theorem w_518 : (Jvm.Cond.methodLink "DominoKing$Table" (140 : Nat) ({ cls := "DominoKing$Table", name := "meet", desc := "(II)Z" } : Jvm.MethodName)) ∈ ab_GW := ab_gw 518 (by decide +kernel) rfl
theorem w_519 : (Jvm.Cond.instanceMethod ({ cls := "DominoKing$Table", name := "meet", desc := "(II)Z" } : Jvm.MethodName)) ∈ ab_GW := ab_gw 519 (by decide +kernel) rfl
theorem w_520 : (Jvm.Cond.selects "DominoKing$Table" ({ cls := "DominoKing$Table", name := "meet", desc := "(II)Z" } : Jvm.MethodName) ({ cls := "DominoKing$Table", name := "meet", desc := "(II)Z" } : Jvm.MethodName)) ∈ ab_GW := ab_gw 520 (by decide +kernel) rfl
theorem w_521 : (Jvm.Cond.code ({ cls := "DominoKing$Table", name := "meet", desc := "(II)Z" } : Jvm.MethodName) prog_6_method_20_code (3 : Nat) (Option.some Jvm.ClassFile.FieldType.boolean)) ∈ ab_GW := ab_gw 521 (by decide +kernel) rfl
theorem w_522 : (Jvm.Cond.methodLink "DominoKing$Table" (144 : Nat) ({ cls := "DominoKing$Table", name := "spots", desc := "(II)I" } : Jvm.MethodName)) ∈ ab_GW := ab_gw 522 (by decide +kernel) rfl
theorem w_523 : (Jvm.Cond.instanceMethod ({ cls := "DominoKing$Table", name := "spots", desc := "(II)I" } : Jvm.MethodName)) ∈ ab_GW := ab_gw 523 (by decide +kernel) rfl
theorem w_524 : (Jvm.Cond.selects "DominoKing$Table" ({ cls := "DominoKing$Table", name := "spots", desc := "(II)I" } : Jvm.MethodName) ({ cls := "DominoKing$Table", name := "spots", desc := "(II)I" } : Jvm.MethodName)) ∈ ab_GW := ab_gw 524 (by decide +kernel) rfl
theorem w_525 : (Jvm.Cond.code ({ cls := "DominoKing$Table", name := "spots", desc := "(II)I" } : Jvm.MethodName) prog_6_method_13_code (3 : Nat) (Option.some Jvm.ClassFile.FieldType.int)) ∈ ab_GW := ab_gw 525 (by decide +kernel) rfl
theorem w_526 : (Jvm.Cond.methodLink "DominoKing" (159 : Nat) ({ cls := "DominoKing$Table", name := "placesHeld", desc := "()I" } : Jvm.MethodName)) ∈ ab_GW := ab_gw 526 (by decide +kernel) rfl
theorem w_527 : (Jvm.Cond.methodLink "DominoKingLaw" (68 : Nat) ({ cls := "DominoKing", name := "at", desc := "(I)I" } : Jvm.MethodName)) ∈ ab_GW := ab_gw 527 (by decide +kernel) rfl
theorem w_528 : (Jvm.Cond.instanceMethod ({ cls := "DominoKing", name := "at", desc := "(I)I" } : Jvm.MethodName)) ∈ ab_GW := ab_gw 528 (by decide +kernel) rfl
theorem w_529 : (Jvm.Cond.selects "DominoKing" ({ cls := "DominoKing", name := "at", desc := "(I)I" } : Jvm.MethodName) ({ cls := "DominoKing", name := "at", desc := "(I)I" } : Jvm.MethodName)) ∈ ab_GW := ab_gw 529 (by decide +kernel) rfl
theorem w_530 : (Jvm.Cond.code ({ cls := "DominoKing", name := "at", desc := "(I)I" } : Jvm.MethodName) prog_1_method_15_code (2 : Nat) (Option.some Jvm.ClassFile.FieldType.int)) ∈ ab_GW := ab_gw 530 (by decide +kernel) rfl
theorem w_531 : (Jvm.Cond.methodLink "DominoKing" (162 : Nat) ({ cls := "DominoKing", name := "stoneOrNone", desc := "(I)I" } : Jvm.MethodName)) ∈ ab_GW := ab_gw 531 (by decide +kernel) rfl
theorem w_532 : (Jvm.Cond.static ({ cls := "DominoKing", name := "stoneOrNone", desc := "(I)I" } : Jvm.MethodName)) ∈ ab_GW := ab_gw 532 (by decide +kernel) rfl
theorem w_533 : (Jvm.Cond.code ({ cls := "DominoKing", name := "stoneOrNone", desc := "(I)I" } : Jvm.MethodName) prog_1_method_52_code (1 : Nat) (Option.some Jvm.ClassFile.FieldType.int)) ∈ ab_GW := ab_gw 533 (by decide +kernel) rfl
theorem w_534 : (Jvm.Cond.constant "DominoKing" (169 : Nat) (-1000000005 : Int32)) ∈ ab_GW := ab_gw 534 (by decide +kernel) rfl
theorem w_535 : (Jvm.Cond.methodLink "DominoKingLaw" (72 : Nat) ({ cls := "DominoKing", name := "best", desc := "(II)I" } : Jvm.MethodName)) ∈ ab_GW := ab_gw 535 (by decide +kernel) rfl
theorem w_536 : (Jvm.Cond.instanceMethod ({ cls := "DominoKing", name := "best", desc := "(II)I" } : Jvm.MethodName)) ∈ ab_GW := ab_gw 536 (by decide +kernel) rfl
theorem w_537 : (Jvm.Cond.selects "DominoKing" ({ cls := "DominoKing", name := "best", desc := "(II)I" } : Jvm.MethodName) ({ cls := "DominoKing", name := "best", desc := "(II)I" } : Jvm.MethodName)) ∈ ab_GW := ab_gw 537 (by decide +kernel) rfl
theorem w_538 : (Jvm.Cond.code ({ cls := "DominoKing", name := "best", desc := "(II)I" } : Jvm.MethodName) prog_1_method_16_code (3 : Nat) (Option.some Jvm.ClassFile.FieldType.int)) ∈ ab_GW := ab_gw 538 (by decide +kernel) rfl
theorem w_539 : (Jvm.Cond.methodLink "DominoKing" (165 : Nat) ({ cls := "DominoKing$Thoughts", name := "bestLaying", desc := "(LDominoKing$Table;II)I" } : Jvm.MethodName)) ∈ ab_GW := ab_gw 539 (by decide +kernel) rfl
theorem w_540 : (Jvm.Cond.instanceMethod ({ cls := "DominoKing$Thoughts", name := "bestLaying", desc := "(LDominoKing$Table;II)I" } : Jvm.MethodName)) ∈ ab_GW := ab_gw 540 (by decide +kernel) rfl
theorem w_541 : (Jvm.Cond.selects "DominoKing$Thoughts" ({ cls := "DominoKing$Thoughts", name := "bestLaying", desc := "(LDominoKing$Table;II)I" } : Jvm.MethodName) ({ cls := "DominoKing$Thoughts", name := "bestLaying", desc := "(LDominoKing$Table;II)I" } : Jvm.MethodName)) ∈ ab_GW := ab_gw 541 (by decide +kernel) rfl
theorem w_542 : (Jvm.Cond.code ({ cls := "DominoKing$Thoughts", name := "bestLaying", desc := "(LDominoKing$Table;II)I" } : Jvm.MethodName) prog_9_method_6_code (5 : Nat) (Option.some Jvm.ClassFile.FieldType.int)) ∈ ab_GW := ab_gw 542 (by decide +kernel) rfl
theorem w_543 : (Jvm.Cond.constant "DominoKing$Thoughts" (55 : Nat) (16777216 : Int32)) ∈ ab_GW := ab_gw 543 (by decide +kernel) rfl
theorem w_544 : (Jvm.Cond.methodLink "DominoKing$Thoughts" (56 : Nat) ({ cls := "java/util/Arrays", name := "fill", desc := "([II)V" } : Jvm.MethodName)) ∈ ab_GW := ab_gw 544 (by decide +kernel) rfl
theorem w_545 : (Jvm.Cond.methodLink "DominoKing$Thoughts" (65 : Nat) ({ cls := "DominoKing$Thoughts", name := "offerStone", desc := "(LDominoKing$Table;II)V" } : Jvm.MethodName)) ∈ ab_GW := ab_gw 545 (by decide +kernel) rfl
theorem w_547 : (Jvm.Cond.instanceMethod ({ cls := "DominoKing$Thoughts", name := "offerStone", desc := "(LDominoKing$Table;II)V" } : Jvm.MethodName)) ∈ ab_GW := ab_gw 547 (by decide +kernel) rfl
theorem w_548 : (Jvm.Cond.code ({ cls := "DominoKing$Thoughts", name := "offerStone", desc := "(LDominoKing$Table;II)V" } : Jvm.MethodName) prog_9_method_7_code (6 : Nat) (Option.none : Option Jvm.ClassFile.FieldType)) ∈ ab_GW := ab_gw 548 (by decide +kernel) rfl
theorem w_549 : (Jvm.Cond.methodLink "DominoKing$Thoughts" (69 : Nat) ({ cls := "DominoKing$Table", name := "leastOff", desc := "(II)I" } : Jvm.MethodName)) ∈ ab_GW := ab_gw 549 (by decide +kernel) rfl
theorem w_550 : (Jvm.Cond.instanceMethod ({ cls := "DominoKing$Table", name := "leastOff", desc := "(II)I" } : Jvm.MethodName)) ∈ ab_GW := ab_gw 550 (by decide +kernel) rfl
theorem w_551 : (Jvm.Cond.selects "DominoKing$Table" ({ cls := "DominoKing$Table", name := "leastOff", desc := "(II)I" } : Jvm.MethodName) ({ cls := "DominoKing$Table", name := "leastOff", desc := "(II)I" } : Jvm.MethodName)) ∈ ab_GW := ab_gw 551 (by decide +kernel) rfl
theorem w_552 : (Jvm.Cond.code ({ cls := "DominoKing$Table", name := "leastOff", desc := "(II)I" } : Jvm.MethodName) prog_6_method_15_code (3 : Nat) (Option.some Jvm.ClassFile.FieldType.int)) ∈ ab_GW := ab_gw 552 (by decide +kernel) rfl
theorem w_553 : (Jvm.Cond.methodLink "DominoKing$Table" (133 : Nat) ({ cls := "java/lang/Math", name := "min", desc := "(II)I" } : Jvm.MethodName)) ∈ ab_GW := ab_gw 553 (by decide +kernel) rfl
theorem w_554 : (Jvm.Cond.methodLink "DominoKing$Thoughts" (73 : Nat) ({ cls := "java/lang/Math", name := "min", desc := "(II)I" } : Jvm.MethodName)) ∈ ab_GW := ab_gw 554 (by decide +kernel) rfl
theorem w_555 : (Jvm.Cond.constant "DominoKing$Thoughts" (44 : Nat) (-1000000005 : Int32)) ∈ ab_GW := ab_gw 555 (by decide +kernel) rfl
theorem w_556 : (Jvm.Cond.methodLink "DominoKingLaw" (76 : Nat) ({ cls := "DominoKing", name := "bestFor", desc := "(II)I" } : Jvm.MethodName)) ∈ ab_GW := ab_gw 556 (by decide +kernel) rfl
theorem w_557 : (Jvm.Cond.instanceMethod ({ cls := "DominoKing", name := "bestFor", desc := "(II)I" } : Jvm.MethodName)) ∈ ab_GW := ab_gw 557 (by decide +kernel) rfl
theorem w_558 : (Jvm.Cond.selects "DominoKing" ({ cls := "DominoKing", name := "bestFor", desc := "(II)I" } : Jvm.MethodName) ({ cls := "DominoKing", name := "bestFor", desc := "(II)I" } : Jvm.MethodName)) ∈ ab_GW := ab_gw 558 (by decide +kernel) rfl
theorem w_559 : (Jvm.Cond.code ({ cls := "DominoKing", name := "bestFor", desc := "(II)I" } : Jvm.MethodName) prog_1_method_17_code (7 : Nat) (Option.some Jvm.ClassFile.FieldType.int)) ∈ ab_GW := ab_gw 559 (by decide +kernel) rfl
theorem w_560 : (Jvm.Cond.methodLink "DominoKing" (170 : Nat) ({ cls := "DominoKing$Table", name := "leastOff", desc := "(II)I" } : Jvm.MethodName)) ∈ ab_GW := ab_gw 560 (by decide +kernel) rfl
theorem w_561 : (Jvm.Cond.methodLink "DominoKingLaw" (80 : Nat) ({ cls := "DominoKing", name := "swap", desc := "()I" } : Jvm.MethodName)) ∈ ab_GW := ab_gw 561 (by decide +kernel) rfl
theorem w_562 : (Jvm.Cond.instanceMethod ({ cls := "DominoKing", name := "swap", desc := "()I" } : Jvm.MethodName)) ∈ ab_GW := ab_gw 562 (by decide +kernel) rfl
theorem w_563 : (Jvm.Cond.selects "DominoKing" ({ cls := "DominoKing", name := "swap", desc := "()I" } : Jvm.MethodName) ({ cls := "DominoKing", name := "swap", desc := "()I" } : Jvm.MethodName)) ∈ ab_GW := ab_gw 563 (by decide +kernel) rfl
theorem w_564 : (Jvm.Cond.code ({ cls := "DominoKing", name := "swap", desc := "()I" } : Jvm.MethodName) prog_1_method_18_code (6 : Nat) (Option.some Jvm.ClassFile.FieldType.int)) ∈ ab_GW := ab_gw 564 (by decide +kernel) rfl
theorem w_565 : (Jvm.Cond.methodLink "DominoKing" (173 : Nat) ({ cls := "DominoKing$Table", name := "gainOfChange", desc := "(II)I" } : Jvm.MethodName)) ∈ ab_GW := ab_gw 565 (by decide +kernel) rfl
theorem w_566 : (Jvm.Cond.instanceMethod ({ cls := "DominoKing$Table", name := "gainOfChange", desc := "(II)I" } : Jvm.MethodName)) ∈ ab_GW := ab_gw 566 (by decide +kernel) rfl
theorem w_567 : (Jvm.Cond.selects "DominoKing$Table" ({ cls := "DominoKing$Table", name := "gainOfChange", desc := "(II)I" } : Jvm.MethodName) ({ cls := "DominoKing$Table", name := "gainOfChange", desc := "(II)I" } : Jvm.MethodName)) ∈ ab_GW := ab_gw 567 (by decide +kernel) rfl
theorem w_568 : (Jvm.Cond.code ({ cls := "DominoKing$Table", name := "gainOfChange", desc := "(II)I" } : Jvm.MethodName) prog_6_method_28_code (5 : Nat) (Option.some Jvm.ClassFile.FieldType.int)) ∈ ab_GW := ab_gw 568 (by decide +kernel) rfl
theorem w_569 : (Jvm.Cond.methodLink "DominoKingLaw" (85 : Nat) ({ cls := "DominoKing", name := "knocked", desc := "(I)I" } : Jvm.MethodName)) ∈ ab_GW := ab_gw 569 (by decide +kernel) rfl
theorem w_570 : (Jvm.Cond.instanceMethod ({ cls := "DominoKing", name := "knocked", desc := "(I)I" } : Jvm.MethodName)) ∈ ab_GW := ab_gw 570 (by decide +kernel) rfl
theorem w_571 : (Jvm.Cond.selects "DominoKing" ({ cls := "DominoKing", name := "knocked", desc := "(I)I" } : Jvm.MethodName) ({ cls := "DominoKing", name := "knocked", desc := "(I)I" } : Jvm.MethodName)) ∈ ab_GW := ab_gw 571 (by decide +kernel) rfl
theorem w_572 : (Jvm.Cond.code ({ cls := "DominoKing", name := "knocked", desc := "(I)I" } : Jvm.MethodName) prog_1_method_19_code (2 : Nat) (Option.some Jvm.ClassFile.FieldType.int)) ∈ ab_GW := ab_gw 572 (by decide +kernel) rfl
theorem w_573 : (Jvm.Cond.methodLink "DominoKing" (176 : Nat) ({ cls := "DominoKing$Table", name := "fallFrom", desc := "(I)I" } : Jvm.MethodName)) ∈ ab_GW := ab_gw 573 (by decide +kernel) rfl
theorem w_574 : (Jvm.Cond.instanceMethod ({ cls := "DominoKing$Table", name := "fallFrom", desc := "(I)I" } : Jvm.MethodName)) ∈ ab_GW := ab_gw 574 (by decide +kernel) rfl
theorem w_575 : (Jvm.Cond.selects "DominoKing$Table" ({ cls := "DominoKing$Table", name := "fallFrom", desc := "(I)I" } : Jvm.MethodName) ({ cls := "DominoKing$Table", name := "fallFrom", desc := "(I)I" } : Jvm.MethodName)) ∈ ab_GW := ab_gw 575 (by decide +kernel) rfl
theorem w_576 : (Jvm.Cond.code ({ cls := "DominoKing$Table", name := "fallFrom", desc := "(I)I" } : Jvm.MethodName) prog_6_method_29_code (6 : Nat) (Option.some Jvm.ClassFile.FieldType.int)) ∈ ab_GW := ab_gw 576 (by decide +kernel) rfl
theorem w_577 : (Jvm.Cond.methodLink "DominoKingLaw" (89 : Nat) ({ cls := "DominoKing", name := "push", desc := "(I)I" } : Jvm.MethodName)) ∈ ab_GW := ab_gw 577 (by decide +kernel) rfl
theorem w_578 : (Jvm.Cond.instanceMethod ({ cls := "DominoKing", name := "push", desc := "(I)I" } : Jvm.MethodName)) ∈ ab_GW := ab_gw 578 (by decide +kernel) rfl
theorem w_579 : (Jvm.Cond.selects "DominoKing" ({ cls := "DominoKing", name := "push", desc := "(I)I" } : Jvm.MethodName) ({ cls := "DominoKing", name := "push", desc := "(I)I" } : Jvm.MethodName)) ∈ ab_GW := ab_gw 579 (by decide +kernel) rfl
theorem w_580 : (Jvm.Cond.code ({ cls := "DominoKing", name := "push", desc := "(I)I" } : Jvm.MethodName) prog_1_method_20_code (6 : Nat) (Option.some Jvm.ClassFile.FieldType.int)) ∈ ab_GW := ab_gw 580 (by decide +kernel) rfl
theorem w_581 : (Jvm.Cond.methodLink "DominoKingLaw" (93 : Nat) ({ cls := "DominoKing", name := "behind", desc := "(II)I" } : Jvm.MethodName)) ∈ ab_GW := ab_gw 581 (by decide +kernel) rfl
theorem w_582 : (Jvm.Cond.instanceMethod ({ cls := "DominoKing", name := "behind", desc := "(II)I" } : Jvm.MethodName)) ∈ ab_GW := ab_gw 582 (by decide +kernel) rfl
theorem w_583 : (Jvm.Cond.selects "DominoKing" ({ cls := "DominoKing", name := "behind", desc := "(II)I" } : Jvm.MethodName) ({ cls := "DominoKing", name := "behind", desc := "(II)I" } : Jvm.MethodName)) ∈ ab_GW := ab_gw 583 (by decide +kernel) rfl
theorem w_584 : (Jvm.Cond.code ({ cls := "DominoKing", name := "behind", desc := "(II)I" } : Jvm.MethodName) prog_1_method_21_code (4 : Nat) (Option.some Jvm.ClassFile.FieldType.int)) ∈ ab_GW := ab_gw 584 (by decide +kernel) rfl
theorem w_585 : (Jvm.Cond.methodLink "DominoKing" (179 : Nat) ({ cls := "DominoKing$Thoughts", name := "behindDays", desc := "(LDominoKing$Table;I)LDominoKing$Table;" } : Jvm.MethodName)) ∈ ab_GW := ab_gw 585 (by decide +kernel) rfl
theorem w_586 : (Jvm.Cond.instanceMethod ({ cls := "DominoKing$Thoughts", name := "behindDays", desc := "(LDominoKing$Table;I)LDominoKing$Table;" } : Jvm.MethodName)) ∈ ab_GW := ab_gw 586 (by decide +kernel) rfl
theorem w_587 : (Jvm.Cond.selects "DominoKing$Thoughts" ({ cls := "DominoKing$Thoughts", name := "behindDays", desc := "(LDominoKing$Table;I)LDominoKing$Table;" } : Jvm.MethodName) ({ cls := "DominoKing$Thoughts", name := "behindDays", desc := "(LDominoKing$Table;I)LDominoKing$Table;" } : Jvm.MethodName)) ∈ ab_GW := ab_gw 587 (by decide +kernel) rfl
theorem w_588 : (Jvm.Cond.code ({ cls := "DominoKing$Thoughts", name := "behindDays", desc := "(LDominoKing$Table;I)LDominoKing$Table;" } : Jvm.MethodName) prog_9_method_2_code (3 : Nat) (Option.some (Jvm.ClassFile.FieldType.object "DominoKing$Table"))) ∈ ab_GW := ab_gw 588 (by decide +kernel) rfl
theorem w_589 : (Jvm.Cond.methodLink "DominoKing$Thoughts" (25 : Nat) ({ cls := "DominoKing$Table", name := "become", desc := "(LDominoKing$Table;)V" } : Jvm.MethodName)) ∈ ab_GW := ab_gw 589 (by decide +kernel) rfl
theorem w_590 : (Jvm.Cond.instanceMethod ({ cls := "DominoKing$Table", name := "become", desc := "(LDominoKing$Table;)V" } : Jvm.MethodName)) ∈ ab_GW := ab_gw 590 (by decide +kernel) rfl
theorem w_591 : (Jvm.Cond.selects "DominoKing$Table" ({ cls := "DominoKing$Table", name := "become", desc := "(LDominoKing$Table;)V" } : Jvm.MethodName) ({ cls := "DominoKing$Table", name := "become", desc := "(LDominoKing$Table;)V" } : Jvm.MethodName)) ∈ ab_GW := ab_gw 591 (by decide +kernel) rfl
theorem w_592 : (Jvm.Cond.code ({ cls := "DominoKing$Table", name := "become", desc := "(LDominoKing$Table;)V" } : Jvm.MethodName) prog_6_method_2_code (3 : Nat) (Option.none : Option Jvm.ClassFile.FieldType)) ∈ ab_GW := ab_gw 592 (by decide +kernel) rfl
theorem w_593 : (Jvm.Cond.methodLink "DominoKing$Table" (55 : Nat) ({ cls := "java/lang/System", name := "arraycopy", desc := "(Ljava/lang/Object;ILjava/lang/Object;II)V" } : Jvm.MethodName)) ∈ ab_GW := ab_gw 593 (by decide +kernel) rfl
theorem w_594 : (Jvm.Cond.static ({ cls := "java/lang/System", name := "arraycopy", desc := "(Ljava/lang/Object;ILjava/lang/Object;II)V" } : Jvm.MethodName)) ∈ ab_GW := ab_gw 594 (by decide +kernel) rfl
theorem w_595 : (Jvm.Cond.native ({ cls := "java/lang/System", name := "arraycopy", desc := "(Ljava/lang/Object;ILjava/lang/Object;II)V" } : Jvm.MethodName)) ∈ ab_GW := ab_gw 595 (by decide +kernel) rfl
theorem w_596 : (Jvm.Cond.methodLink "DominoKing$Thoughts" (29 : Nat) ({ cls := "DominoKing$Table", name := "passDays", desc := "(I)V" } : Jvm.MethodName)) ∈ ab_GW := ab_gw 596 (by decide +kernel) rfl
theorem w_597 : (Jvm.Cond.methodLink "DominoKingLaw" (97 : Nat) ({ cls := "DominoKing", name := "laid", desc := "()I" } : Jvm.MethodName)) ∈ ab_GW := ab_gw 597 (by decide +kernel) rfl
theorem w_598 : (Jvm.Cond.instanceMethod ({ cls := "DominoKing", name := "laid", desc := "()I" } : Jvm.MethodName)) ∈ ab_GW := ab_gw 598 (by decide +kernel) rfl
theorem w_599 : (Jvm.Cond.selects "DominoKing" ({ cls := "DominoKing", name := "laid", desc := "()I" } : Jvm.MethodName) ({ cls := "DominoKing", name := "laid", desc := "()I" } : Jvm.MethodName)) ∈ ab_GW := ab_gw 599 (by decide +kernel) rfl
theorem w_600 : (Jvm.Cond.code ({ cls := "DominoKing", name := "laid", desc := "()I" } : Jvm.MethodName) prog_1_method_22_code (1 : Nat) (Option.some Jvm.ClassFile.FieldType.int)) ∈ ab_GW := ab_gw 600 (by decide +kernel) rfl
theorem w_601 : (Jvm.Cond.methodLink "DominoKing" (183 : Nat) ({ cls := "DominoKing$Thoughts", name := "daysTillLaid", desc := "(LDominoKing$Table;)I" } : Jvm.MethodName)) ∈ ab_GW := ab_gw 601 (by decide +kernel) rfl
theorem w_602 : (Jvm.Cond.instanceMethod ({ cls := "DominoKing$Thoughts", name := "daysTillLaid", desc := "(LDominoKing$Table;)I" } : Jvm.MethodName)) ∈ ab_GW := ab_gw 602 (by decide +kernel) rfl
theorem w_603 : (Jvm.Cond.selects "DominoKing$Thoughts" ({ cls := "DominoKing$Thoughts", name := "daysTillLaid", desc := "(LDominoKing$Table;)I" } : Jvm.MethodName) ({ cls := "DominoKing$Thoughts", name := "daysTillLaid", desc := "(LDominoKing$Table;)I" } : Jvm.MethodName)) ∈ ab_GW := ab_gw 603 (by decide +kernel) rfl
theorem w_604 : (Jvm.Cond.code ({ cls := "DominoKing$Thoughts", name := "daysTillLaid", desc := "(LDominoKing$Table;)I" } : Jvm.MethodName) prog_9_method_3_code (4 : Nat) (Option.some Jvm.ClassFile.FieldType.int)) ∈ ab_GW := ab_gw 604 (by decide +kernel) rfl
theorem w_605 : (Jvm.Cond.methodLink "DominoKing$Thoughts" (33 : Nat) ({ cls := "DominoKing$Table", name := "laidStones", desc := "()I" } : Jvm.MethodName)) ∈ ab_GW := ab_gw 605 (by decide +kernel) rfl
theorem w_606 : (Jvm.Cond.methodLink "DominoKing$Thoughts" (41 : Nat) ({ cls := "DominoKing$Table", name := "passDay", desc := "()V" } : Jvm.MethodName)) ∈ ab_GW := ab_gw 606 (by decide +kernel) rfl
theorem w_607 : (Jvm.Cond.methodLink "DominoKingLaw" (101 : Nat) ({ cls := "DominoKing", name := "lost", desc := "(II)I" } : Jvm.MethodName)) ∈ ab_GW := ab_gw 607 (by decide +kernel) rfl
theorem w_608 : (Jvm.Cond.instanceMethod ({ cls := "DominoKing", name := "lost", desc := "(II)I" } : Jvm.MethodName)) ∈ ab_GW := ab_gw 608 (by decide +kernel) rfl
theorem w_609 : (Jvm.Cond.selects "DominoKing" ({ cls := "DominoKing", name := "lost", desc := "(II)I" } : Jvm.MethodName) ({ cls := "DominoKing", name := "lost", desc := "(II)I" } : Jvm.MethodName)) ∈ ab_GW := ab_gw 609 (by decide +kernel) rfl
theorem w_610 : (Jvm.Cond.code ({ cls := "DominoKing", name := "lost", desc := "(II)I" } : Jvm.MethodName) prog_1_method_23_code (7 : Nat) (Option.some Jvm.ClassFile.FieldType.int)) ∈ ab_GW := ab_gw 610 (by decide +kernel) rfl
theorem w_611 : (Jvm.Cond.methodLink "DominoKing" (187 : Nat) ({ cls := "DominoKing$Thoughts", name := "pictureWithout", desc := "(LDominoKing$Table;II)I" } : Jvm.MethodName)) ∈ ab_GW := ab_gw 611 (by decide +kernel) rfl
theorem w_612 : (Jvm.Cond.instanceMethod ({ cls := "DominoKing$Thoughts", name := "pictureWithout", desc := "(LDominoKing$Table;II)I" } : Jvm.MethodName)) ∈ ab_GW := ab_gw 612 (by decide +kernel) rfl
theorem w_613 : (Jvm.Cond.selects "DominoKing$Thoughts" ({ cls := "DominoKing$Thoughts", name := "pictureWithout", desc := "(LDominoKing$Table;II)I" } : Jvm.MethodName) ({ cls := "DominoKing$Thoughts", name := "pictureWithout", desc := "(LDominoKing$Table;II)I" } : Jvm.MethodName)) ∈ ab_GW := ab_gw 613 (by decide +kernel) rfl
theorem w_614 : (Jvm.Cond.code ({ cls := "DominoKing$Thoughts", name := "pictureWithout", desc := "(LDominoKing$Table;II)I" } : Jvm.MethodName) prog_9_method_4_code (4 : Nat) (Option.some Jvm.ClassFile.FieldType.int)) ∈ ab_GW := ab_gw 614 (by decide +kernel) rfl
theorem w_615 : (Jvm.Cond.methodLink "DominoKing$Thoughts" (45 : Nat) ({ cls := "DominoKing$Table", name := "moveTo", desc := "(II)V" } : Jvm.MethodName)) ∈ ab_GW := ab_gw 615 (by decide +kernel) rfl
theorem w_616 : (Jvm.Cond.methodLink "DominoKing$Thoughts" (49 : Nat) ({ cls := "DominoKing$Table", name := "picture", desc := "()I" } : Jvm.MethodName)) ∈ ab_GW := ab_gw 616 (by decide +kernel) rfl
theorem w_617 : (Jvm.Cond.methodLink "DominoKingLaw" (105 : Nat) ({ cls := "DominoKing", name := "seen", desc := "(II)I" } : Jvm.MethodName)) ∈ ab_GW := ab_gw 617 (by decide +kernel) rfl
theorem w_618 : (Jvm.Cond.instanceMethod ({ cls := "DominoKing", name := "seen", desc := "(II)I" } : Jvm.MethodName)) ∈ ab_GW := ab_gw 618 (by decide +kernel) rfl
theorem w_619 : (Jvm.Cond.selects "DominoKing" ({ cls := "DominoKing", name := "seen", desc := "(II)I" } : Jvm.MethodName) ({ cls := "DominoKing", name := "seen", desc := "(II)I" } : Jvm.MethodName)) ∈ ab_GW := ab_gw 619 (by decide +kernel) rfl
theorem w_620 : (Jvm.Cond.code ({ cls := "DominoKing", name := "seen", desc := "(II)I" } : Jvm.MethodName) prog_1_method_24_code (7 : Nat) (Option.some Jvm.ClassFile.FieldType.int)) ∈ ab_GW := ab_gw 620 (by decide +kernel) rfl
theorem w_621 : (Jvm.Cond.methodLink "DominoKing" (190 : Nat) ({ cls := "DominoKing", name := "isSheet", desc := "(I)Z" } : Jvm.MethodName)) ∈ ab_GW := ab_gw 621 (by decide +kernel) rfl
theorem w_622 : (Jvm.Cond.static ({ cls := "DominoKing", name := "isSheet", desc := "(I)Z" } : Jvm.MethodName)) ∈ ab_GW := ab_gw 622 (by decide +kernel) rfl
theorem w_623 : (Jvm.Cond.code ({ cls := "DominoKing", name := "isSheet", desc := "(I)Z" } : Jvm.MethodName) prog_1_method_48_code (1 : Nat) (Option.some Jvm.ClassFile.FieldType.boolean)) ∈ ab_GW := ab_gw 623 (by decide +kernel) rfl
theorem w_624 : (Jvm.Cond.methodLink "DominoKing" (193 : Nat) ({ cls := "DominoKing$Sheet", name := "isMissing", desc := "()Z" } : Jvm.MethodName)) ∈ ab_GW := ab_gw 624 (by decide +kernel) rfl
theorem w_625 : (Jvm.Cond.instanceMethod ({ cls := "DominoKing$Sheet", name := "isMissing", desc := "()Z" } : Jvm.MethodName)) ∈ ab_GW := ab_gw 625 (by decide +kernel) rfl
theorem w_626 : (Jvm.Cond.selects "DominoKing$Sheet" ({ cls := "DominoKing$Sheet", name := "isMissing", desc := "()Z" } : Jvm.MethodName) ({ cls := "DominoKing$Sheet", name := "isMissing", desc := "()Z" } : Jvm.MethodName)) ∈ ab_GW := ab_gw 626 (by decide +kernel) rfl
theorem w_627 : (Jvm.Cond.code ({ cls := "DominoKing$Sheet", name := "isMissing", desc := "()Z" } : Jvm.MethodName) prog_4_method_2_code (1 : Nat) (Option.some Jvm.ClassFile.FieldType.boolean)) ∈ ab_GW := ab_gw 627 (by decide +kernel) rfl
theorem w_628 : (Jvm.Cond.constant "DominoKing" (197 : Nat) (-1000000011 : Int32)) ∈ ab_GW := ab_gw 628 (by decide +kernel) rfl
theorem w_629 : (Jvm.Cond.methodLink "DominoKing" (198 : Nat) ({ cls := "DominoKing$Table", name := "unlike", desc := "(ILDominoKing$Sheet;)I" } : Jvm.MethodName)) ∈ ab_GW := ab_gw 629 (by decide +kernel) rfl
theorem w_630 : (Jvm.Cond.instanceMethod ({ cls := "DominoKing$Table", name := "unlike", desc := "(ILDominoKing$Sheet;)I" } : Jvm.MethodName)) ∈ ab_GW := ab_gw 630 (by decide +kernel) rfl
theorem w_631 : (Jvm.Cond.selects "DominoKing$Table" ({ cls := "DominoKing$Table", name := "unlike", desc := "(ILDominoKing$Sheet;)I" } : Jvm.MethodName) ({ cls := "DominoKing$Table", name := "unlike", desc := "(ILDominoKing$Sheet;)I" } : Jvm.MethodName)) ∈ ab_GW := ab_gw 631 (by decide +kernel) rfl
theorem w_632 : (Jvm.Cond.code ({ cls := "DominoKing$Table", name := "unlike", desc := "(ILDominoKing$Sheet;)I" } : Jvm.MethodName) prog_6_method_30_code (5 : Nat) (Option.some Jvm.ClassFile.FieldType.int)) ∈ ab_GW := ab_gw 632 (by decide +kernel) rfl
theorem w_633 : (Jvm.Cond.methodLink "DominoKing$Table" (171 : Nat) ({ cls := "DominoKing$Sheet", name := "isNumber", desc := "(I)Z" } : Jvm.MethodName)) ∈ ab_GW := ab_gw 633 (by decide +kernel) rfl
theorem w_634 : (Jvm.Cond.instanceMethod ({ cls := "DominoKing$Sheet", name := "isNumber", desc := "(I)Z" } : Jvm.MethodName)) ∈ ab_GW := ab_gw 634 (by decide +kernel) rfl
theorem w_635 : (Jvm.Cond.selects "DominoKing$Sheet" ({ cls := "DominoKing$Sheet", name := "isNumber", desc := "(I)Z" } : Jvm.MethodName) ({ cls := "DominoKing$Sheet", name := "isNumber", desc := "(I)Z" } : Jvm.MethodName)) ∈ ab_GW := ab_gw 635 (by decide +kernel) rfl
theorem w_636 : (Jvm.Cond.code ({ cls := "DominoKing$Sheet", name := "isNumber", desc := "(I)Z" } : Jvm.MethodName) prog_4_method_6_code (2 : Nat) (Option.some Jvm.ClassFile.FieldType.boolean)) ∈ ab_GW := ab_gw 636 (by decide +kernel) rfl
theorem w_638 : (Jvm.Cond.constant "DominoKing$Sheet" (38 : Nat) (-1000000005 : Int32)) ∈ ab_GW := ab_gw 638 (by decide +kernel) rfl
theorem w_639 : (Jvm.Cond.methodLink "DominoKing$Table" (176 : Nat) ({ cls := "DominoKing$Table", name := "darkOfCell", desc := "(I)I" } : Jvm.MethodName)) ∈ ab_GW := ab_gw 639 (by decide +kernel) rfl
theorem w_640 : (Jvm.Cond.instanceMethod ({ cls := "DominoKing$Table", name := "darkOfCell", desc := "(I)I" } : Jvm.MethodName)) ∈ ab_GW := ab_gw 640 (by decide +kernel) rfl
theorem w_641 : (Jvm.Cond.selects "DominoKing$Table" ({ cls := "DominoKing$Table", name := "darkOfCell", desc := "(I)I" } : Jvm.MethodName) ({ cls := "DominoKing$Table", name := "darkOfCell", desc := "(I)I" } : Jvm.MethodName)) ∈ ab_GW := ab_gw 641 (by decide +kernel) rfl
theorem w_642 : (Jvm.Cond.code ({ cls := "DominoKing$Table", name := "darkOfCell", desc := "(I)I" } : Jvm.MethodName) prog_6_method_31_code (5 : Nat) (Option.some Jvm.ClassFile.FieldType.int)) ∈ ab_GW := ab_gw 642 (by decide +kernel) rfl
theorem w_643 : (Jvm.Cond.methodLink "DominoKingLaw" (109 : Nat) ({ cls := "DominoKing", name := "fee", desc := "()I" } : Jvm.MethodName)) ∈ ab_GW := ab_gw 643 (by decide +kernel) rfl
theorem w_644 : (Jvm.Cond.instanceMethod ({ cls := "DominoKing", name := "fee", desc := "()I" } : Jvm.MethodName)) ∈ ab_GW := ab_gw 644 (by decide +kernel) rfl
theorem w_645 : (Jvm.Cond.selects "DominoKing" ({ cls := "DominoKing", name := "fee", desc := "()I" } : Jvm.MethodName) ({ cls := "DominoKing", name := "fee", desc := "()I" } : Jvm.MethodName)) ∈ ab_GW := ab_gw 645 (by decide +kernel) rfl
theorem w_646 : (Jvm.Cond.code ({ cls := "DominoKing", name := "fee", desc := "()I" } : Jvm.MethodName) prog_1_method_25_code (3 : Nat) (Option.some Jvm.ClassFile.FieldType.int)) ∈ ab_GW := ab_gw 646 (by decide +kernel) rfl
theorem w_647 : (Jvm.Cond.methodLink "DominoKing" (202 : Nat) ({ cls := "DominoKing$Table", name := "law", desc := "(I)LDominoKing$Text;" } : Jvm.MethodName)) ∈ ab_GW := ab_gw 647 (by decide +kernel) rfl
theorem w_648 : (Jvm.Cond.methodLink "DominoKing" (206 : Nat) ({ cls := "DominoKing$Text", name := "gives", desc := "(III)I" } : Jvm.MethodName)) ∈ ab_GW := ab_gw 648 (by decide +kernel) rfl
theorem w_649 : (Jvm.Cond.methodLink "DominoKingLaw" (113 : Nat) ({ cls := "DominoKing", name := "fine", desc := "(I)I" } : Jvm.MethodName)) ∈ ab_GW := ab_gw 649 (by decide +kernel) rfl
theorem w_650 : (Jvm.Cond.instanceMethod ({ cls := "DominoKing", name := "fine", desc := "(I)I" } : Jvm.MethodName)) ∈ ab_GW := ab_gw 650 (by decide +kernel) rfl
theorem w_651 : (Jvm.Cond.selects "DominoKing" ({ cls := "DominoKing", name := "fine", desc := "(I)I" } : Jvm.MethodName) ({ cls := "DominoKing", name := "fine", desc := "(I)I" } : Jvm.MethodName)) ∈ ab_GW := ab_gw 651 (by decide +kernel) rfl
theorem w_652 : (Jvm.Cond.code ({ cls := "DominoKing", name := "fine", desc := "(I)I" } : Jvm.MethodName) prog_1_method_26_code (3 : Nat) (Option.some Jvm.ClassFile.FieldType.int)) ∈ ab_GW := ab_gw 652 (by decide +kernel) rfl
theorem w_653 : (Jvm.Cond.methodLink "DominoKingLaw" (117 : Nat) ({ cls := "DominoKing", name := "feed", desc := "(III)I" } : Jvm.MethodName)) ∈ ab_GW := ab_gw 653 (by decide +kernel) rfl
theorem w_654 : (Jvm.Cond.instanceMethod ({ cls := "DominoKing", name := "feed", desc := "(III)I" } : Jvm.MethodName)) ∈ ab_GW := ab_gw 654 (by decide +kernel) rfl
theorem w_655 : (Jvm.Cond.selects "DominoKing" ({ cls := "DominoKing", name := "feed", desc := "(III)I" } : Jvm.MethodName) ({ cls := "DominoKing", name := "feed", desc := "(III)I" } : Jvm.MethodName)) ∈ ab_GW := ab_gw 655 (by decide +kernel) rfl
theorem w_656 : (Jvm.Cond.code ({ cls := "DominoKing", name := "feed", desc := "(III)I" } : Jvm.MethodName) prog_1_method_27_code (4 : Nat) (Option.some Jvm.ClassFile.FieldType.int)) ∈ ab_GW := ab_gw 656 (by decide +kernel) rfl
theorem w_657 : (Jvm.Cond.methodLink "DominoKing" (214 : Nat) ({ cls := "DominoKing$Tape", name := "add", desc := "(I)V" } : Jvm.MethodName)) ∈ ab_GW := ab_gw 657 (by decide +kernel) rfl
theorem w_658 : (Jvm.Cond.instanceMethod ({ cls := "DominoKing$Tape", name := "add", desc := "(I)V" } : Jvm.MethodName)) ∈ ab_GW := ab_gw 658 (by decide +kernel) rfl
theorem w_659 : (Jvm.Cond.selects "DominoKing$Tape" ({ cls := "DominoKing$Tape", name := "add", desc := "(I)V" } : Jvm.MethodName) ({ cls := "DominoKing$Tape", name := "add", desc := "(I)V" } : Jvm.MethodName)) ∈ ab_GW := ab_gw 659 (by decide +kernel) rfl
theorem w_660 : (Jvm.Cond.code ({ cls := "DominoKing$Tape", name := "add", desc := "(I)V" } : Jvm.MethodName) prog_7_method_2_code (3 : Nat) (Option.none : Option Jvm.ClassFile.FieldType)) ∈ ab_GW := ab_gw 660 (by decide +kernel) rfl
theorem w_661 : (Jvm.Cond.methodLink "DominoKingLaw" (121 : Nat) ({ cls := "DominoKing", name := "trim", desc := "(I)I" } : Jvm.MethodName)) ∈ ab_GW := ab_gw 661 (by decide +kernel) rfl
theorem w_662 : (Jvm.Cond.instanceMethod ({ cls := "DominoKing", name := "trim", desc := "(I)I" } : Jvm.MethodName)) ∈ ab_GW := ab_gw 662 (by decide +kernel) rfl
theorem w_663 : (Jvm.Cond.selects "DominoKing" ({ cls := "DominoKing", name := "trim", desc := "(I)I" } : Jvm.MethodName) ({ cls := "DominoKing", name := "trim", desc := "(I)I" } : Jvm.MethodName)) ∈ ab_GW := ab_gw 663 (by decide +kernel) rfl
theorem w_664 : (Jvm.Cond.code ({ cls := "DominoKing", name := "trim", desc := "(I)I" } : Jvm.MethodName) prog_1_method_28_code (2 : Nat) (Option.some Jvm.ClassFile.FieldType.int)) ∈ ab_GW := ab_gw 664 (by decide +kernel) rfl
theorem w_665 : (Jvm.Cond.methodLink "DominoKingLaw" (125 : Nat) ({ cls := "DominoKing", name := "text", desc := "()I" } : Jvm.MethodName)) ∈ ab_GW := ab_gw 665 (by decide +kernel) rfl
theorem w_666 : (Jvm.Cond.instanceMethod ({ cls := "DominoKing", name := "text", desc := "()I" } : Jvm.MethodName)) ∈ ab_GW := ab_gw 666 (by decide +kernel) rfl
theorem w_667 : (Jvm.Cond.selects "DominoKing" ({ cls := "DominoKing", name := "text", desc := "()I" } : Jvm.MethodName) ({ cls := "DominoKing", name := "text", desc := "()I" } : Jvm.MethodName)) ∈ ab_GW := ab_gw 667 (by decide +kernel) rfl
theorem w_668 : (Jvm.Cond.code ({ cls := "DominoKing", name := "text", desc := "()I" } : Jvm.MethodName) prog_1_method_29_code (2 : Nat) (Option.some Jvm.ClassFile.FieldType.int)) ∈ ab_GW := ab_gw 668 (by decide +kernel) rfl
theorem w_669 : (Jvm.Cond.methodLink "DominoKing" (217 : Nat) ({ cls := "DominoKing$Reader", name := "readText", desc := "()LDominoKing$Text;" } : Jvm.MethodName)) ∈ ab_GW := ab_gw 669 (by decide +kernel) rfl
theorem w_670 : (Jvm.Cond.instanceMethod ({ cls := "DominoKing$Reader", name := "readText", desc := "()LDominoKing$Text;" } : Jvm.MethodName)) ∈ ab_GW := ab_gw 670 (by decide +kernel) rfl
theorem w_671 : (Jvm.Cond.selects "DominoKing$Reader" ({ cls := "DominoKing$Reader", name := "readText", desc := "()LDominoKing$Text;" } : Jvm.MethodName) ({ cls := "DominoKing$Reader", name := "readText", desc := "()LDominoKing$Text;" } : Jvm.MethodName)) ∈ ab_GW := ab_gw 671 (by decide +kernel) rfl
theorem w_672 : (Jvm.Cond.code ({ cls := "DominoKing$Reader", name := "readText", desc := "()LDominoKing$Text;" } : Jvm.MethodName) prog_3_method_2_code (2 : Nat) (Option.some (Jvm.ClassFile.FieldType.object "DominoKing$Text"))) ∈ ab_GW := ab_gw 672 (by decide +kernel) rfl
theorem w_673 : (Jvm.Cond.methodLink "DominoKing$Reader" (28 : Nat) ({ cls := "DominoKing$Reader", name := "begin", desc := "()V" } : Jvm.MethodName)) ∈ ab_GW := ab_gw 673 (by decide +kernel) rfl
theorem w_675 : (Jvm.Cond.instanceMethod ({ cls := "DominoKing$Reader", name := "begin", desc := "()V" } : Jvm.MethodName)) ∈ ab_GW := ab_gw 675 (by decide +kernel) rfl
theorem w_676 : (Jvm.Cond.code ({ cls := "DominoKing$Reader", name := "begin", desc := "()V" } : Jvm.MethodName) prog_3_method_3_code (1 : Nat) (Option.none : Option Jvm.ClassFile.FieldType)) ∈ ab_GW := ab_gw 676 (by decide +kernel) rfl
theorem w_677 : (Jvm.Cond.methodLink "DominoKing$Reader" (48 : Nat) ({ cls := "DominoKing$Reader", name := "step", desc := "()V" } : Jvm.MethodName)) ∈ ab_GW := ab_gw 677 (by decide +kernel) rfl
theorem w_679 : (Jvm.Cond.instanceMethod ({ cls := "DominoKing$Reader", name := "step", desc := "()V" } : Jvm.MethodName)) ∈ ab_GW := ab_gw 679 (by decide +kernel) rfl
theorem w_680 : (Jvm.Cond.code ({ cls := "DominoKing$Reader", name := "step", desc := "()V" } : Jvm.MethodName) prog_3_method_6_code (3 : Nat) (Option.none : Option Jvm.ClassFile.FieldType)) ∈ ab_GW := ab_gw 680 (by decide +kernel) rfl
theorem w_681 : (Jvm.Cond.methodLink "DominoKing$Reader" (104 : Nat) ({ cls := "DominoKing$Reader", name := "sortAt", desc := "(I)I" } : Jvm.MethodName)) ∈ ab_GW := ab_gw 681 (by decide +kernel) rfl
theorem w_683 : (Jvm.Cond.instanceMethod ({ cls := "DominoKing$Reader", name := "sortAt", desc := "(I)I" } : Jvm.MethodName)) ∈ ab_GW := ab_gw 683 (by decide +kernel) rfl
theorem w_684 : (Jvm.Cond.code ({ cls := "DominoKing$Reader", name := "sortAt", desc := "(I)I" } : Jvm.MethodName) prog_3_method_7_code (3 : Nat) (Option.some Jvm.ClassFile.FieldType.int)) ∈ ab_GW := ab_gw 684 (by decide +kernel) rfl
theorem w_685 : (Jvm.Cond.methodLink "DominoKing$Reader" (31 : Nat) ({ cls := "DominoKing$Reader", name := "keyAtHand", desc := "()I" } : Jvm.MethodName)) ∈ ab_GW := ab_gw 685 (by decide +kernel) rfl
theorem w_687 : (Jvm.Cond.instanceMethod ({ cls := "DominoKing$Reader", name := "keyAtHand", desc := "()I" } : Jvm.MethodName)) ∈ ab_GW := ab_gw 687 (by decide +kernel) rfl
theorem w_688 : (Jvm.Cond.code ({ cls := "DominoKing$Reader", name := "keyAtHand", desc := "()I" } : Jvm.MethodName) prog_3_method_4_code (1 : Nat) (Option.some Jvm.ClassFile.FieldType.int)) ∈ ab_GW := ab_gw 688 (by decide +kernel) rfl
theorem w_690 : (Jvm.Cond.methodLink "DominoKing$Reader" (80 : Nat) ({ cls := "DominoKing$Reader", name := "wordIs", desc := "(Ljava/lang/String;)Z" } : Jvm.MethodName)) ∈ ab_GW := ab_gw 690 (by decide +kernel) rfl
theorem w_692 : (Jvm.Cond.instanceMethod ({ cls := "DominoKing$Reader", name := "wordIs", desc := "(Ljava/lang/String;)Z" } : Jvm.MethodName)) ∈ ab_GW := ab_gw 692 (by decide +kernel) rfl
theorem w_693 : (Jvm.Cond.code ({ cls := "DominoKing$Reader", name := "wordIs", desc := "(Ljava/lang/String;)Z" } : Jvm.MethodName) prog_3_method_5_code (3 : Nat) (Option.some Jvm.ClassFile.FieldType.boolean)) ∈ ab_GW := ab_gw 693 (by decide +kernel) rfl
theorem w_694 : (Jvm.Cond.methodLink "DominoKing$Reader" (88 : Nat) ({ cls := "java/lang/String", name := "length", desc := "()I" } : Jvm.MethodName)) ∈ ab_GW := ab_gw 694 (by decide +kernel) rfl
theorem w_695 : (Jvm.Cond.instanceMethod ({ cls := "java/lang/String", name := "length", desc := "()I" } : Jvm.MethodName)) ∈ ab_GW := ab_gw 695 (by decide +kernel) rfl
theorem w_696 : (Jvm.Cond.selects "java/lang/String" ({ cls := "java/lang/String", name := "length", desc := "()I" } : Jvm.MethodName) ({ cls := "java/lang/String", name := "length", desc := "()I" } : Jvm.MethodName)) ∈ ab_GW := ab_gw 696 (by decide +kernel) rfl
theorem w_697 : (Jvm.Cond.code ({ cls := "java/lang/String", name := "length", desc := "()I" } : Jvm.MethodName) prog_16_method_54_code (1 : Nat) (Option.some Jvm.ClassFile.FieldType.int)) ∈ ab_GW := ab_gw 697 (by decide +kernel) rfl
theorem w_698 : (Jvm.Cond.methodLink "java/lang/String" (335 : Nat) ({ cls := "java/lang/String", name := "coder", desc := "()B" } : Jvm.MethodName)) ∈ ab_GW := ab_gw 698 (by decide +kernel) rfl
theorem w_699 : (Jvm.Cond.instanceMethod ({ cls := "java/lang/String", name := "coder", desc := "()B" } : Jvm.MethodName)) ∈ ab_GW := ab_gw 699 (by decide +kernel) rfl
theorem w_700 : (Jvm.Cond.selects "java/lang/String" ({ cls := "java/lang/String", name := "coder", desc := "()B" } : Jvm.MethodName) ({ cls := "java/lang/String", name := "coder", desc := "()B" } : Jvm.MethodName)) ∈ ab_GW := ab_gw 700 (by decide +kernel) rfl
theorem w_701 : (Jvm.Cond.code ({ cls := "java/lang/String", name := "coder", desc := "()B" } : Jvm.MethodName) prog_16_method_152_code (1 : Nat) (Option.some Jvm.ClassFile.FieldType.byte)) ∈ ab_GW := ab_gw 701 (by decide +kernel) rfl
theorem w_702 : (Jvm.Cond.fieldLink "java/lang/String" (38 : Nat) "java/lang/String" "COMPACT_STRINGS" "Z") ∈ ab_GW := ab_gw 702 (by decide +kernel) rfl
theorem w_704 : (Jvm.Cond.methodLink "DominoKing$Reader" (97 : Nat) ({ cls := "java/lang/String", name := "charAt", desc := "(I)C" } : Jvm.MethodName)) ∈ ab_GW := ab_gw 704 (by decide +kernel) rfl
theorem w_705 : (Jvm.Cond.instanceMethod ({ cls := "java/lang/String", name := "charAt", desc := "(I)C" } : Jvm.MethodName)) ∈ ab_GW := ab_gw 705 (by decide +kernel) rfl
theorem w_706 : (Jvm.Cond.selects "java/lang/String" ({ cls := "java/lang/String", name := "charAt", desc := "(I)C" } : Jvm.MethodName) ({ cls := "java/lang/String", name := "charAt", desc := "(I)C" } : Jvm.MethodName)) ∈ ab_GW := ab_gw 706 (by decide +kernel) rfl
theorem w_707 : (Jvm.Cond.code ({ cls := "java/lang/String", name := "charAt", desc := "(I)C" } : Jvm.MethodName) prog_16_method_56_code (2 : Nat) (Option.some Jvm.ClassFile.FieldType.char)) ∈ ab_GW := ab_gw 707 (by decide +kernel) rfl
theorem w_708 : (Jvm.Cond.methodLink "java/lang/String" (492 : Nat) ({ cls := "java/lang/String", name := "isLatin1", desc := "()Z" } : Jvm.MethodName)) ∈ ab_GW := ab_gw 708 (by decide +kernel) rfl
theorem w_709 : (Jvm.Cond.instanceMethod ({ cls := "java/lang/String", name := "isLatin1", desc := "()Z" } : Jvm.MethodName)) ∈ ab_GW := ab_gw 709 (by decide +kernel) rfl
theorem w_710 : (Jvm.Cond.selects "java/lang/String" ({ cls := "java/lang/String", name := "isLatin1", desc := "()Z" } : Jvm.MethodName) ({ cls := "java/lang/String", name := "isLatin1", desc := "()Z" } : Jvm.MethodName)) ∈ ab_GW := ab_gw 710 (by decide +kernel) rfl
theorem w_711 : (Jvm.Cond.code ({ cls := "java/lang/String", name := "isLatin1", desc := "()Z" } : Jvm.MethodName) prog_16_method_154_code (1 : Nat) (Option.some Jvm.ClassFile.FieldType.boolean)) ∈ ab_GW := ab_gw 711 (by decide +kernel) rfl
theorem w_712 : (Jvm.Cond.methodLink "java/lang/String" (495 : Nat) ({ cls := "java/lang/StringLatin1", name := "charAt", desc := "([BI)C" } : Jvm.MethodName)) ∈ ab_GW := ab_gw 712 (by decide +kernel) rfl
theorem w_713 : (Jvm.Cond.static ({ cls := "java/lang/StringLatin1", name := "charAt", desc := "([BI)C" } : Jvm.MethodName)) ∈ ab_GW := ab_gw 713 (by decide +kernel) rfl
theorem w_714 : (Jvm.Cond.code ({ cls := "java/lang/StringLatin1", name := "charAt", desc := "([BI)C" } : Jvm.MethodName) prog_17_method_2_code (2 : Nat) (Option.some Jvm.ClassFile.FieldType.char)) ∈ ab_GW := ab_gw 714 (by decide +kernel) rfl
theorem w_715 : (Jvm.Cond.methodLink "java/lang/StringLatin1" (9 : Nat) ({ cls := "java/lang/String", name := "checkIndex", desc := "(II)V" } : Jvm.MethodName)) ∈ ab_GW := ab_gw 715 (by decide +kernel) rfl
theorem w_716 : (Jvm.Cond.static ({ cls := "java/lang/String", name := "checkIndex", desc := "(II)V" } : Jvm.MethodName)) ∈ ab_GW := ab_gw 716 (by decide +kernel) rfl
theorem w_717 : (Jvm.Cond.code ({ cls := "java/lang/String", name := "checkIndex", desc := "(II)V" } : Jvm.MethodName) prog_16_method_155_code (2 : Nat) (Option.none : Option Jvm.ClassFile.FieldType)) ∈ ab_GW := ab_gw 717 (by decide +kernel) rfl
theorem w_718 : (Jvm.Cond.fieldLink "java/lang/String" (1053 : Nat) "jdk/internal/util/Preconditions" "SIOOBE_FORMATTER" "Ljava/util/function/BiFunction;") ∈ ab_GW := ab_gw 718 (by decide +kernel) rfl
theorem w_720 : (Jvm.Cond.methodLink "java/lang/String" (1059 : Nat) ({ cls := "jdk/internal/util/Preconditions", name := "checkIndex", desc := "(IILjava/util/function/BiFunction;)I" } : Jvm.MethodName)) ∈ ab_GW := ab_gw 720 (by decide +kernel) rfl
theorem w_721 : (Jvm.Cond.static ({ cls := "jdk/internal/util/Preconditions", name := "checkIndex", desc := "(IILjava/util/function/BiFunction;)I" } : Jvm.MethodName)) ∈ ab_GW := ab_gw 721 (by decide +kernel) rfl
theorem w_722 : (Jvm.Cond.code ({ cls := "jdk/internal/util/Preconditions", name := "checkIndex", desc := "(IILjava/util/function/BiFunction;)I" } : Jvm.MethodName) prog_21_method_11_code (3 : Nat) (Option.some Jvm.ClassFile.FieldType.int)) ∈ ab_GW := ab_gw 722 (by decide +kernel) rfl
theorem w_747 : (Jvm.Cond.methodLink "DominoKing$Reader" (51 : Nat) ({ cls := "DominoKing$Reader", name := "readLevel", desc := "(III)V" } : Jvm.MethodName)) ∈ ab_GW := ab_gw 747 (by decide +kernel) rfl
theorem w_749 : (Jvm.Cond.instanceMethod ({ cls := "DominoKing$Reader", name := "readLevel", desc := "(III)V" } : Jvm.MethodName)) ∈ ab_GW := ab_gw 749 (by decide +kernel) rfl
theorem w_750 : (Jvm.Cond.code ({ cls := "DominoKing$Reader", name := "readLevel", desc := "(III)V" } : Jvm.MethodName) prog_3_method_9_code (7 : Nat) (Option.none : Option Jvm.ClassFile.FieldType)) ∈ ab_GW := ab_gw 750 (by decide +kernel) rfl
theorem w_751 : (Jvm.Cond.methodLink "DominoKing$Reader" (112 : Nat) ({ cls := "DominoKing$Reader", name := "readPiece", desc := "(II)V" } : Jvm.MethodName)) ∈ ab_GW := ab_gw 751 (by decide +kernel) rfl
theorem w_753 : (Jvm.Cond.instanceMethod ({ cls := "DominoKing$Reader", name := "readPiece", desc := "(II)V" } : Jvm.MethodName)) ∈ ab_GW := ab_gw 753 (by decide +kernel) rfl
theorem w_754 : (Jvm.Cond.code ({ cls := "DominoKing$Reader", name := "readPiece", desc := "(II)V" } : Jvm.MethodName) prog_3_method_11_code (4 : Nat) (Option.none : Option Jvm.ClassFile.FieldType)) ∈ ab_GW := ab_gw 754 (by decide +kernel) rfl
theorem w_755 : (Jvm.Cond.methodLink "DominoKing$Reader" (116 : Nat) ({ cls := "DominoKing$Reader", name := "signAtHand", desc := "()I" } : Jvm.MethodName)) ∈ ab_GW := ab_gw 755 (by decide +kernel) rfl
theorem w_757 : (Jvm.Cond.instanceMethod ({ cls := "DominoKing$Reader", name := "signAtHand", desc := "()I" } : Jvm.MethodName)) ∈ ab_GW := ab_gw 757 (by decide +kernel) rfl
theorem w_758 : (Jvm.Cond.code ({ cls := "DominoKing$Reader", name := "signAtHand", desc := "()I" } : Jvm.MethodName) prog_3_method_8_code (1 : Nat) (Option.some Jvm.ClassFile.FieldType.int)) ∈ ab_GW := ab_gw 758 (by decide +kernel) rfl
theorem w_759 : (Jvm.Cond.methodLink "DominoKing$Reader" (122 : Nat) ({ cls := "DominoKing$Reader", name := "emit", desc := "(II)V" } : Jvm.MethodName)) ∈ ab_GW := ab_gw 759 (by decide +kernel) rfl
theorem w_761 : (Jvm.Cond.instanceMethod ({ cls := "DominoKing$Reader", name := "emit", desc := "(II)V" } : Jvm.MethodName)) ∈ ab_GW := ab_gw 761 (by decide +kernel) rfl
theorem w_762 : (Jvm.Cond.code ({ cls := "DominoKing$Reader", name := "emit", desc := "(II)V" } : Jvm.MethodName) prog_3_method_16_code (3 : Nat) (Option.none : Option Jvm.ClassFile.FieldType)) ∈ ab_GW := ab_gw 762 (by decide +kernel) rfl
theorem w_763 : (Jvm.Cond.methodLink "DominoKing$Reader" (125 : Nat) ({ cls := "DominoKing$Reader", name := "close", desc := "()V" } : Jvm.MethodName)) ∈ ab_GW := ab_gw 763 (by decide +kernel) rfl
theorem w_765 : (Jvm.Cond.instanceMethod ({ cls := "DominoKing$Reader", name := "close", desc := "()V" } : Jvm.MethodName)) ∈ ab_GW := ab_gw 765 (by decide +kernel) rfl
theorem w_766 : (Jvm.Cond.code ({ cls := "DominoKing$Reader", name := "close", desc := "()V" } : Jvm.MethodName) prog_3_method_12_code (1 : Nat) (Option.none : Option Jvm.ClassFile.FieldType)) ∈ ab_GW := ab_gw 766 (by decide +kernel) rfl
theorem w_767 : (Jvm.Cond.methodLink "DominoKing$Reader" (128 : Nat) ({ cls := "DominoKing$Reader", name := "readOperand", desc := "()V" } : Jvm.MethodName)) ∈ ab_GW := ab_gw 767 (by decide +kernel) rfl
theorem w_769 : (Jvm.Cond.instanceMethod ({ cls := "DominoKing$Reader", name := "readOperand", desc := "()V" } : Jvm.MethodName)) ∈ ab_GW := ab_gw 769 (by decide +kernel) rfl
theorem w_770 : (Jvm.Cond.code ({ cls := "DominoKing$Reader", name := "readOperand", desc := "()V" } : Jvm.MethodName) prog_3_method_13_code (1 : Nat) (Option.none : Option Jvm.ClassFile.FieldType)) ∈ ab_GW := ab_gw 770 (by decide +kernel) rfl
theorem w_771 : (Jvm.Cond.methodLink "DominoKing$Reader" (131 : Nat) ({ cls := "DominoKing$Reader", name := "numberAtHand", desc := "()I" } : Jvm.MethodName)) ∈ ab_GW := ab_gw 771 (by decide +kernel) rfl
theorem w_773 : (Jvm.Cond.instanceMethod ({ cls := "DominoKing$Reader", name := "numberAtHand", desc := "()I" } : Jvm.MethodName)) ∈ ab_GW := ab_gw 773 (by decide +kernel) rfl
theorem w_774 : (Jvm.Cond.code ({ cls := "DominoKing$Reader", name := "numberAtHand", desc := "()I" } : Jvm.MethodName) prog_3_method_14_code (3 : Nat) (Option.some Jvm.ClassFile.FieldType.int)) ∈ ab_GW := ab_gw 774 (by decide +kernel) rfl
theorem w_775 : (Jvm.Cond.methodLink "DominoKing$Reader" (134 : Nat) ({ cls := "DominoKing$Reader", name := "nameAtHand", desc := "()I" } : Jvm.MethodName)) ∈ ab_GW := ab_gw 775 (by decide +kernel) rfl
theorem w_777 : (Jvm.Cond.instanceMethod ({ cls := "DominoKing$Reader", name := "nameAtHand", desc := "()I" } : Jvm.MethodName)) ∈ ab_GW := ab_gw 777 (by decide +kernel) rfl
theorem w_778 : (Jvm.Cond.code ({ cls := "DominoKing$Reader", name := "nameAtHand", desc := "()I" } : Jvm.MethodName) prog_3_method_15_code (1 : Nat) (Option.some Jvm.ClassFile.FieldType.int)) ∈ ab_GW := ab_gw 778 (by decide +kernel) rfl
theorem w_779 : (Jvm.Cond.methodLink "DominoKing$Reader" (137 : Nat) ({ cls := "java/lang/String", name := "indexOf", desc := "(I)I" } : Jvm.MethodName)) ∈ ab_GW := ab_gw 779 (by decide +kernel) rfl
theorem w_780 : (Jvm.Cond.instanceMethod ({ cls := "java/lang/String", name := "indexOf", desc := "(I)I" } : Jvm.MethodName)) ∈ ab_GW := ab_gw 780 (by decide +kernel) rfl
theorem w_781 : (Jvm.Cond.selects "java/lang/String" ({ cls := "java/lang/String", name := "indexOf", desc := "(I)I" } : Jvm.MethodName) ({ cls := "java/lang/String", name := "indexOf", desc := "(I)I" } : Jvm.MethodName)) ∈ ab_GW := ab_gw 781 (by decide +kernel) rfl
theorem w_782 : (Jvm.Cond.code ({ cls := "java/lang/String", name := "indexOf", desc := "(I)I" } : Jvm.MethodName) prog_16_method_79_code (2 : Nat) (Option.some Jvm.ClassFile.FieldType.int)) ∈ ab_GW := ab_gw 782 (by decide +kernel) rfl
theorem w_783 : (Jvm.Cond.methodLink "java/lang/String" (633 : Nat) ({ cls := "java/lang/String", name := "indexOf", desc := "(II)I" } : Jvm.MethodName)) ∈ ab_GW := ab_gw 783 (by decide +kernel) rfl
theorem w_784 : (Jvm.Cond.instanceMethod ({ cls := "java/lang/String", name := "indexOf", desc := "(II)I" } : Jvm.MethodName)) ∈ ab_GW := ab_gw 784 (by decide +kernel) rfl
theorem w_785 : (Jvm.Cond.selects "java/lang/String" ({ cls := "java/lang/String", name := "indexOf", desc := "(II)I" } : Jvm.MethodName) ({ cls := "java/lang/String", name := "indexOf", desc := "(II)I" } : Jvm.MethodName)) ∈ ab_GW := ab_gw 785 (by decide +kernel) rfl
theorem w_786 : (Jvm.Cond.code ({ cls := "java/lang/String", name := "indexOf", desc := "(II)I" } : Jvm.MethodName) prog_16_method_80_code (3 : Nat) (Option.some Jvm.ClassFile.FieldType.int)) ∈ ab_GW := ab_gw 786 (by decide +kernel) rfl
theorem w_787 : (Jvm.Cond.methodLink "java/lang/String" (505 : Nat) ({ cls := "java/lang/String", name := "length", desc := "()I" } : Jvm.MethodName)) ∈ ab_GW := ab_gw 787 (by decide +kernel) rfl
theorem w_788 : (Jvm.Cond.methodLink "java/lang/String" (637 : Nat) ({ cls := "java/lang/StringLatin1", name := "indexOf", desc := "([BIII)I" } : Jvm.MethodName)) ∈ ab_GW := ab_gw 788 (by decide +kernel) rfl
theorem w_789 : (Jvm.Cond.static ({ cls := "java/lang/StringLatin1", name := "indexOf", desc := "([BIII)I" } : Jvm.MethodName)) ∈ ab_GW := ab_gw 789 (by decide +kernel) rfl
theorem w_790 : (Jvm.Cond.code ({ cls := "java/lang/StringLatin1", name := "indexOf", desc := "([BIII)I" } : Jvm.MethodName) prog_17_method_22_code (4 : Nat) (Option.some Jvm.ClassFile.FieldType.int)) ∈ ab_GW := ab_gw 790 (by decide +kernel) rfl
theorem w_791 : (Jvm.Cond.methodLink "java/lang/StringLatin1" (88 : Nat) ({ cls := "java/lang/StringLatin1", name := "canEncode", desc := "(I)Z" } : Jvm.MethodName)) ∈ ab_GW := ab_gw 791 (by decide +kernel) rfl
theorem w_792 : (Jvm.Cond.static ({ cls := "java/lang/StringLatin1", name := "canEncode", desc := "(I)Z" } : Jvm.MethodName)) ∈ ab_GW := ab_gw 792 (by decide +kernel) rfl
theorem w_793 : (Jvm.Cond.code ({ cls := "java/lang/StringLatin1", name := "canEncode", desc := "(I)Z" } : Jvm.MethodName) prog_17_method_4_code (1 : Nat) (Option.some Jvm.ClassFile.FieldType.boolean)) ∈ ab_GW := ab_gw 793 (by decide +kernel) rfl
theorem w_794 : (Jvm.Cond.methodLink "java/lang/StringLatin1" (92 : Nat) ({ cls := "java/lang/Math", name := "max", desc := "(II)I" } : Jvm.MethodName)) ∈ ab_GW := ab_gw 794 (by decide +kernel) rfl
theorem w_795 : (Jvm.Cond.methodLink "java/lang/StringLatin1" (38 : Nat) ({ cls := "java/lang/Math", name := "min", desc := "(II)I" } : Jvm.MethodName)) ∈ ab_GW := ab_gw 795 (by decide +kernel) rfl
theorem w_796 : (Jvm.Cond.methodLink "java/lang/StringLatin1" (95 : Nat) ({ cls := "java/lang/StringLatin1", name := "indexOfChar", desc := "([BIII)I" } : Jvm.MethodName)) ∈ ab_GW := ab_gw 796 (by decide +kernel) rfl
theorem w_797 : (Jvm.Cond.static ({ cls := "java/lang/StringLatin1", name := "indexOfChar", desc := "([BIII)I" } : Jvm.MethodName)) ∈ ab_GW := ab_gw 797 (by decide +kernel) rfl
theorem w_798 : (Jvm.Cond.code ({ cls := "java/lang/StringLatin1", name := "indexOfChar", desc := "([BIII)I" } : Jvm.MethodName) prog_17_method_23_code (6 : Nat) (Option.some Jvm.ClassFile.FieldType.int)) ∈ ab_GW := ab_gw 798 (by decide +kernel) rfl
theorem w_802 : (Jvm.Cond.methodLink "java/lang/StringUTF16" (224 : Nat) ({ cls := "java/lang/Math", name := "max", desc := "(II)I" } : Jvm.MethodName)) ∈ ab_GW := ab_gw 802 (by decide +kernel) rfl
theorem w_803 : (Jvm.Cond.methodLink "java/lang/StringUTF16" (183 : Nat) ({ cls := "java/lang/Math", name := "min", desc := "(II)I" } : Jvm.MethodName)) ∈ ab_GW := ab_gw 803 (by decide +kernel) rfl
theorem w_804 : (Jvm.Cond.constant "java/lang/StringUTF16" (227 : Nat) (65536 : Int32)) ∈ ab_GW := ab_gw 804 (by decide +kernel) rfl
theorem w_814 : (Jvm.Cond.methodLink "java/lang/String" (1062 : Nat) ({ cls := "jdk/internal/util/Preconditions", name := "checkFromToIndex", desc := "(IIILjava/util/function/BiFunction;)I" } : Jvm.MethodName)) ∈ ab_GW := ab_gw 814 (by decide +kernel) rfl
theorem w_815 : (Jvm.Cond.static ({ cls := "jdk/internal/util/Preconditions", name := "checkFromToIndex", desc := "(IIILjava/util/function/BiFunction;)I" } : Jvm.MethodName)) ∈ ab_GW := ab_gw 815 (by decide +kernel) rfl
theorem w_816 : (Jvm.Cond.code ({ cls := "jdk/internal/util/Preconditions", name := "checkFromToIndex", desc := "(IIILjava/util/function/BiFunction;)I" } : Jvm.MethodName) prog_21_method_12_code (4 : Nat) (Option.some Jvm.ClassFile.FieldType.int)) ∈ ab_GW := ab_gw 816 (by decide +kernel) rfl
theorem w_823 : (Jvm.Cond.methodLink "java/lang/StringUTF16" (164 : Nat) ({ cls := "java/lang/Character", name := "isValidCodePoint", desc := "(I)Z" } : Jvm.MethodName)) ∈ ab_GW := ab_gw 823 (by decide +kernel) rfl
theorem w_824 : (Jvm.Cond.static ({ cls := "java/lang/Character", name := "isValidCodePoint", desc := "(I)Z" } : Jvm.MethodName)) ∈ ab_GW := ab_gw 824 (by decide +kernel) rfl
theorem w_825 : (Jvm.Cond.code ({ cls := "java/lang/Character", name := "isValidCodePoint", desc := "(I)Z" } : Jvm.MethodName) prog_12_method_11_code (2 : Nat) (Option.some Jvm.ClassFile.FieldType.boolean)) ∈ ab_GW := ab_gw 825 (by decide +kernel) rfl
theorem w_826 : (Jvm.Cond.methodLink "java/lang/StringUTF16" (157 : Nat) ({ cls := "java/lang/Character", name := "highSurrogate", desc := "(I)C" } : Jvm.MethodName)) ∈ ab_GW := ab_gw 826 (by decide +kernel) rfl
theorem w_827 : (Jvm.Cond.static ({ cls := "java/lang/Character", name := "highSurrogate", desc := "(I)C" } : Jvm.MethodName)) ∈ ab_GW := ab_gw 827 (by decide +kernel) rfl
theorem w_828 : (Jvm.Cond.code ({ cls := "java/lang/Character", name := "highSurrogate", desc := "(I)C" } : Jvm.MethodName) prog_12_method_28_code (1 : Nat) (Option.some Jvm.ClassFile.FieldType.char)) ∈ ab_GW := ab_gw 828 (by decide +kernel) rfl
theorem w_829 : (Jvm.Cond.constant "java/lang/Character" (110 : Nat) (55232 : Int32)) ∈ ab_GW := ab_gw 829 (by decide +kernel) rfl
theorem w_830 : (Jvm.Cond.methodLink "java/lang/StringUTF16" (161 : Nat) ({ cls := "java/lang/Character", name := "lowSurrogate", desc := "(I)C" } : Jvm.MethodName)) ∈ ab_GW := ab_gw 830 (by decide +kernel) rfl
theorem w_831 : (Jvm.Cond.static ({ cls := "java/lang/Character", name := "lowSurrogate", desc := "(I)C" } : Jvm.MethodName)) ∈ ab_GW := ab_gw 831 (by decide +kernel) rfl
theorem w_832 : (Jvm.Cond.code ({ cls := "java/lang/Character", name := "lowSurrogate", desc := "(I)C" } : Jvm.MethodName) prog_12_method_29_code (1 : Nat) (Option.some Jvm.ClassFile.FieldType.char)) ∈ ab_GW := ab_gw 832 (by decide +kernel) rfl
theorem w_833 : (Jvm.Cond.constant "java/lang/Character" (76 : Nat) (56320 : Int32)) ∈ ab_GW := ab_gw 833 (by decide +kernel) rfl
theorem w_834 : (Jvm.Cond.methodLink "DominoKing$Reader" (119 : Nat) ({ cls := "DominoKing$Reader", name := "levelOf", desc := "(I)I" } : Jvm.MethodName)) ∈ ab_GW := ab_gw 834 (by decide +kernel) rfl
theorem w_835 : (Jvm.Cond.static ({ cls := "DominoKing$Reader", name := "levelOf", desc := "(I)I" } : Jvm.MethodName)) ∈ ab_GW := ab_gw 835 (by decide +kernel) rfl
theorem w_836 : (Jvm.Cond.code ({ cls := "DominoKing$Reader", name := "levelOf", desc := "(I)I" } : Jvm.MethodName) prog_3_method_10_code (1 : Nat) (Option.some Jvm.ClassFile.FieldType.int)) ∈ ab_GW := ab_gw 836 (by decide +kernel) rfl
theorem w_837 : (Jvm.Cond.classLink "DominoKing$Reader" (58 : Nat) "DominoKing$Text") ∈ ab_GW := ab_gw 837 (by decide +kernel) rfl
theorem w_838 : (Jvm.Cond.instantiable "DominoKing$Text" (5 : Nat)) ∈ ab_GW := ab_gw 838 (by decide +kernel) rfl
theorem w_839 : (Jvm.Cond.methodLink "DominoKing$Reader" (66 : Nat) ({ cls := "java/util/Arrays", name := "copyOf", desc := "([II)[I" } : Jvm.MethodName)) ∈ ab_GW := ab_gw 839 (by decide +kernel) rfl
theorem w_840 : (Jvm.Cond.static ({ cls := "java/util/Arrays", name := "copyOf", desc := "([II)[I" } : Jvm.MethodName)) ∈ ab_GW := ab_gw 840 (by decide +kernel) rfl
theorem w_841 : (Jvm.Cond.code ({ cls := "java/util/Arrays", name := "copyOf", desc := "([II)[I" } : Jvm.MethodName) prog_20_method_123_code (3 : Nat) (Option.some (Jvm.ClassFile.FieldType.array Jvm.ClassFile.FieldType.int))) ∈ ab_GW := ab_gw 841 (by decide +kernel) rfl
theorem w_849 : (Jvm.Cond.methodLink "java/util/Arrays" (304 : Nat) ({ cls := "java/lang/Math", name := "min", desc := "(II)I" } : Jvm.MethodName)) ∈ ab_GW := ab_gw 849 (by decide +kernel) rfl
theorem w_850 : (Jvm.Cond.methodLink "java/util/Arrays" (150 : Nat) ({ cls := "java/lang/System", name := "arraycopy", desc := "(Ljava/lang/Object;ILjava/lang/Object;II)V" } : Jvm.MethodName)) ∈ ab_GW := ab_gw 850 (by decide +kernel) rfl
theorem w_851 : (Jvm.Cond.methodLink "DominoKing$Reader" (72 : Nat) ({ cls := "DominoKing$Text", name := "<init>", desc := "(II[I[I)V" } : Jvm.MethodName)) ∈ ab_GW := ab_gw 851 (by decide +kernel) rfl
theorem w_852 : (Jvm.Cond.instanceMethod ({ cls := "DominoKing$Text", name := "<init>", desc := "(II[I[I)V" } : Jvm.MethodName)) ∈ ab_GW := ab_gw 852 (by decide +kernel) rfl
theorem w_853 : (Jvm.Cond.code ({ cls := "DominoKing$Text", name := "<init>", desc := "(II[I[I)V" } : Jvm.MethodName) prog_8_method_1_code (5 : Nat) (Option.none : Option Jvm.ClassFile.FieldType)) ∈ ab_GW := ab_gw 853 (by decide +kernel) rfl
theorem w_854 : (Jvm.Cond.methodLink "DominoKing$Text" (1 : Nat) ({ cls := "java/lang/Object", name := "<init>", desc := "()V" } : Jvm.MethodName)) ∈ ab_GW := ab_gw 854 (by decide +kernel) rfl
theorem w_855 : (Jvm.Cond.fieldLink "DominoKing$Text" (7 : Nat) "DominoKing$Text" "key" "I") ∈ ab_GW := ab_gw 855 (by decide +kernel) rfl
theorem w_856 : (Jvm.Cond.fieldLink "DominoKing$Table" (94 : Nat) "DominoKing$Text" "key" "I") ∈ ab_GW := ab_gw 856 (by decide +kernel) rfl
theorem w_857 : (Jvm.Cond.fieldLink "DominoKing" (234 : Nat) "DominoKing$Text" "key" "I") ∈ ab_GW := ab_gw 857 (by decide +kernel) rfl
theorem w_858 : (Jvm.Cond.fieldLink "DominoKing$Text" (13 : Nat) "DominoKing$Text" "operands" "I") ∈ ab_GW := ab_gw 858 (by decide +kernel) rfl
theorem w_859 : (Jvm.Cond.fieldLink "DominoKing" (237 : Nat) "DominoKing$Text" "operands" "I") ∈ ab_GW := ab_gw 859 (by decide +kernel) rfl
theorem w_860 : (Jvm.Cond.fieldLink "DominoKing$Text" (16 : Nat) "DominoKing$Text" "signs" "[I") ∈ ab_GW := ab_gw 860 (by decide +kernel) rfl
theorem w_861 : (Jvm.Cond.fieldLink "DominoKing$Text" (20 : Nat) "DominoKing$Text" "values" "[I") ∈ ab_GW := ab_gw 861 (by decide +kernel) rfl
theorem w_862 : (Jvm.Cond.fieldLink "DominoKing$Text" (23 : Nat) "DominoKing$Text" "stack" "[I") ∈ ab_GW := ab_gw 862 (by decide +kernel) rfl
theorem w_874 : (Jvm.Cond.methodLink "DominoKing" (227 : Nat) ({ cls := "DominoKing$Table", name := "addText", desc := "(LDominoKing$Text;)I" } : Jvm.MethodName)) ∈ ab_GW := ab_gw 874 (by decide +kernel) rfl
theorem w_875 : (Jvm.Cond.instanceMethod ({ cls := "DominoKing$Table", name := "addText", desc := "(LDominoKing$Text;)I" } : Jvm.MethodName)) ∈ ab_GW := ab_gw 875 (by decide +kernel) rfl
theorem w_876 : (Jvm.Cond.selects "DominoKing$Table" ({ cls := "DominoKing$Table", name := "addText", desc := "(LDominoKing$Text;)I" } : Jvm.MethodName) ({ cls := "DominoKing$Table", name := "addText", desc := "(LDominoKing$Text;)I" } : Jvm.MethodName)) ∈ ab_GW := ab_gw 876 (by decide +kernel) rfl
theorem w_877 : (Jvm.Cond.code ({ cls := "DominoKing$Table", name := "addText", desc := "(LDominoKing$Text;)I" } : Jvm.MethodName) prog_6_method_8_code (4 : Nat) (Option.some Jvm.ClassFile.FieldType.int)) ∈ ab_GW := ab_gw 877 (by decide +kernel) rfl
theorem w_878 : (Jvm.Cond.methodLink "DominoKingLaw" (129 : Nat) ({ cls := "DominoKing", name := "textTold", desc := "(II)I" } : Jvm.MethodName)) ∈ ab_GW := ab_gw 878 (by decide +kernel) rfl
theorem w_879 : (Jvm.Cond.instanceMethod ({ cls := "DominoKing", name := "textTold", desc := "(II)I" } : Jvm.MethodName)) ∈ ab_GW := ab_gw 879 (by decide +kernel) rfl
theorem w_880 : (Jvm.Cond.selects "DominoKing" ({ cls := "DominoKing", name := "textTold", desc := "(II)I" } : Jvm.MethodName) ({ cls := "DominoKing", name := "textTold", desc := "(II)I" } : Jvm.MethodName)) ∈ ab_GW := ab_gw 880 (by decide +kernel) rfl
theorem w_881 : (Jvm.Cond.code ({ cls := "DominoKing", name := "textTold", desc := "(II)I" } : Jvm.MethodName) prog_1_method_30_code (4 : Nat) (Option.some Jvm.ClassFile.FieldType.int)) ∈ ab_GW := ab_gw 881 (by decide +kernel) rfl
theorem w_882 : (Jvm.Cond.methodLink "DominoKing" (231 : Nat) ({ cls := "DominoKing$Table", name := "textAt", desc := "(I)LDominoKing$Text;" } : Jvm.MethodName)) ∈ ab_GW := ab_gw 882 (by decide +kernel) rfl
theorem w_883 : (Jvm.Cond.methodLink "DominoKingLaw" (133 : Nat) ({ cls := "DominoKing", name := "why", desc := "(I)I" } : Jvm.MethodName)) ∈ ab_GW := ab_gw 883 (by decide +kernel) rfl
theorem w_884 : (Jvm.Cond.instanceMethod ({ cls := "DominoKing", name := "why", desc := "(I)I" } : Jvm.MethodName)) ∈ ab_GW := ab_gw 884 (by decide +kernel) rfl
theorem w_885 : (Jvm.Cond.selects "DominoKing" ({ cls := "DominoKing", name := "why", desc := "(I)I" } : Jvm.MethodName) ({ cls := "DominoKing", name := "why", desc := "(I)I" } : Jvm.MethodName)) ∈ ab_GW := ab_gw 885 (by decide +kernel) rfl
theorem w_886 : (Jvm.Cond.code ({ cls := "DominoKing", name := "why", desc := "(I)I" } : Jvm.MethodName) prog_1_method_31_code (2 : Nat) (Option.some Jvm.ClassFile.FieldType.int)) ∈ ab_GW := ab_gw 886 (by decide +kernel) rfl
theorem w_887 : (Jvm.Cond.methodLink "DominoKingLaw" (137 : Nat) ({ cls := "DominoKing", name := "sheet", desc := "(III)I" } : Jvm.MethodName)) ∈ ab_GW := ab_gw 887 (by decide +kernel) rfl
theorem w_888 : (Jvm.Cond.instanceMethod ({ cls := "DominoKing", name := "sheet", desc := "(III)I" } : Jvm.MethodName)) ∈ ab_GW := ab_gw 888 (by decide +kernel) rfl
theorem w_889 : (Jvm.Cond.selects "DominoKing" ({ cls := "DominoKing", name := "sheet", desc := "(III)I" } : Jvm.MethodName) ({ cls := "DominoKing", name := "sheet", desc := "(III)I" } : Jvm.MethodName)) ∈ ab_GW := ab_gw 889 (by decide +kernel) rfl
theorem w_890 : (Jvm.Cond.code ({ cls := "DominoKing", name := "sheet", desc := "(III)I" } : Jvm.MethodName) prog_1_method_32_code (4 : Nat) (Option.some Jvm.ClassFile.FieldType.int)) ∈ ab_GW := ab_gw 890 (by decide +kernel) rfl
theorem w_891 : (Jvm.Cond.methodLink "DominoKing" (243 : Nat) ({ cls := "DominoKing$Sheet", name := "become", desc := "(II)V" } : Jvm.MethodName)) ∈ ab_GW := ab_gw 891 (by decide +kernel) rfl
theorem w_892 : (Jvm.Cond.instanceMethod ({ cls := "DominoKing$Sheet", name := "become", desc := "(II)V" } : Jvm.MethodName)) ∈ ab_GW := ab_gw 892 (by decide +kernel) rfl
theorem w_893 : (Jvm.Cond.selects "DominoKing$Sheet" ({ cls := "DominoKing$Sheet", name := "become", desc := "(II)V" } : Jvm.MethodName) ({ cls := "DominoKing$Sheet", name := "become", desc := "(II)V" } : Jvm.MethodName)) ∈ ab_GW := ab_gw 893 (by decide +kernel) rfl
theorem w_894 : (Jvm.Cond.code ({ cls := "DominoKing$Sheet", name := "become", desc := "(II)V" } : Jvm.MethodName) prog_4_method_3_code (3 : Nat) (Option.none : Option Jvm.ClassFile.FieldType)) ∈ ab_GW := ab_gw 894 (by decide +kernel) rfl
theorem w_895 : (Jvm.Cond.methodLink "DominoKing$Sheet" (22 : Nat) ({ cls := "java/util/Arrays", name := "fill", desc := "([II)V" } : Jvm.MethodName)) ∈ ab_GW := ab_gw 895 (by decide +kernel) rfl
theorem w_896 : (Jvm.Cond.constant "DominoKing" (246 : Nat) (-1000000014 : Int32)) ∈ ab_GW := ab_gw 896 (by decide +kernel) rfl
theorem w_897 : (Jvm.Cond.methodLink "DominoKingLaw" (141 : Nat) ({ cls := "DominoKing", name := "mark", desc := "(III)I" } : Jvm.MethodName)) ∈ ab_GW := ab_gw 897 (by decide +kernel) rfl
theorem w_898 : (Jvm.Cond.instanceMethod ({ cls := "DominoKing", name := "mark", desc := "(III)I" } : Jvm.MethodName)) ∈ ab_GW := ab_gw 898 (by decide +kernel) rfl
theorem w_899 : (Jvm.Cond.selects "DominoKing" ({ cls := "DominoKing", name := "mark", desc := "(III)I" } : Jvm.MethodName) ({ cls := "DominoKing", name := "mark", desc := "(III)I" } : Jvm.MethodName)) ∈ ab_GW := ab_gw 899 (by decide +kernel) rfl
theorem w_900 : (Jvm.Cond.code ({ cls := "DominoKing", name := "mark", desc := "(III)I" } : Jvm.MethodName) prog_1_method_33_code (5 : Nat) (Option.some Jvm.ClassFile.FieldType.int)) ∈ ab_GW := ab_gw 900 (by decide +kernel) rfl
theorem w_901 : (Jvm.Cond.constant "DominoKing" (248 : Nat) (-1000000013 : Int32)) ∈ ab_GW := ab_gw 901 (by decide +kernel) rfl
theorem w_902 : (Jvm.Cond.methodLink "DominoKing" (252 : Nat) ({ cls := "DominoKing$Sheet", name := "write", desc := "(II)I" } : Jvm.MethodName)) ∈ ab_GW := ab_gw 902 (by decide +kernel) rfl
theorem w_903 : (Jvm.Cond.instanceMethod ({ cls := "DominoKing$Sheet", name := "write", desc := "(II)I" } : Jvm.MethodName)) ∈ ab_GW := ab_gw 903 (by decide +kernel) rfl
theorem w_904 : (Jvm.Cond.selects "DominoKing$Sheet" ({ cls := "DominoKing$Sheet", name := "write", desc := "(II)I" } : Jvm.MethodName) ({ cls := "DominoKing$Sheet", name := "write", desc := "(II)I" } : Jvm.MethodName)) ∈ ab_GW := ab_gw 904 (by decide +kernel) rfl
theorem w_905 : (Jvm.Cond.code ({ cls := "DominoKing$Sheet", name := "write", desc := "(II)I" } : Jvm.MethodName) prog_4_method_5_code (3 : Nat) (Option.some Jvm.ClassFile.FieldType.int)) ∈ ab_GW := ab_gw 905 (by decide +kernel) rfl
theorem w_906 : (Jvm.Cond.constant "DominoKing" (255 : Nat) (-99999 : Int32)) ∈ ab_GW := ab_gw 906 (by decide +kernel) rfl
theorem w_907 : (Jvm.Cond.constant "DominoKing" (256 : Nat) (99999 : Int32)) ∈ ab_GW := ab_gw 907 (by decide +kernel) rfl
theorem w_908 : (Jvm.Cond.methodLink "DominoKingLaw" (145 : Nat) ({ cls := "DominoKing", name := "pour", desc := "(I)I" } : Jvm.MethodName)) ∈ ab_GW := ab_gw 908 (by decide +kernel) rfl
theorem w_909 : (Jvm.Cond.instanceMethod ({ cls := "DominoKing", name := "pour", desc := "(I)I" } : Jvm.MethodName)) ∈ ab_GW := ab_gw 909 (by decide +kernel) rfl
theorem w_910 : (Jvm.Cond.selects "DominoKing" ({ cls := "DominoKing", name := "pour", desc := "(I)I" } : Jvm.MethodName) ({ cls := "DominoKing", name := "pour", desc := "(I)I" } : Jvm.MethodName)) ∈ ab_GW := ab_gw 910 (by decide +kernel) rfl
theorem w_911 : (Jvm.Cond.code ({ cls := "DominoKing", name := "pour", desc := "(I)I" } : Jvm.MethodName) prog_1_method_34_code (6 : Nat) (Option.some Jvm.ClassFile.FieldType.int)) ∈ ab_GW := ab_gw 911 (by decide +kernel) rfl
theorem w_912 : (Jvm.Cond.methodLink "DominoKing" (257 : Nat) ({ cls := "DominoKing$Sheet", name := "isNumber", desc := "(I)Z" } : Jvm.MethodName)) ∈ ab_GW := ab_gw 912 (by decide +kernel) rfl
theorem w_913 : (Jvm.Cond.methodLink "DominoKing" (263 : Nat) ({ cls := "DominoKing", name := "clamp", desc := "(III)I" } : Jvm.MethodName)) ∈ ab_GW := ab_gw 913 (by decide +kernel) rfl
theorem w_914 : (Jvm.Cond.methodLink "DominoKingLaw" (149 : Nat) ({ cls := "DominoKing", name := "reads", desc := "(I)I" } : Jvm.MethodName)) ∈ ab_GW := ab_gw 914 (by decide +kernel) rfl
theorem w_915 : (Jvm.Cond.instanceMethod ({ cls := "DominoKing", name := "reads", desc := "(I)I" } : Jvm.MethodName)) ∈ ab_GW := ab_gw 915 (by decide +kernel) rfl
theorem w_916 : (Jvm.Cond.selects "DominoKing" ({ cls := "DominoKing", name := "reads", desc := "(I)I" } : Jvm.MethodName) ({ cls := "DominoKing", name := "reads", desc := "(I)I" } : Jvm.MethodName)) ∈ ab_GW := ab_gw 916 (by decide +kernel) rfl
theorem w_917 : (Jvm.Cond.code ({ cls := "DominoKing", name := "reads", desc := "(I)I" } : Jvm.MethodName) prog_1_method_35_code (4 : Nat) (Option.some Jvm.ClassFile.FieldType.int)) ∈ ab_GW := ab_gw 917 (by decide +kernel) rfl
theorem w_918 : (Jvm.Cond.methodLink "DominoKingLaw" (153 : Nat) ({ cls := "DominoKing", name := "copy", desc := "(IIIII)I" } : Jvm.MethodName)) ∈ ab_GW := ab_gw 918 (by decide +kernel) rfl
theorem w_919 : (Jvm.Cond.instanceMethod ({ cls := "DominoKing", name := "copy", desc := "(IIIII)I" } : Jvm.MethodName)) ∈ ab_GW := ab_gw 919 (by decide +kernel) rfl
theorem w_920 : (Jvm.Cond.selects "DominoKing" ({ cls := "DominoKing", name := "copy", desc := "(IIIII)I" } : Jvm.MethodName) ({ cls := "DominoKing", name := "copy", desc := "(IIIII)I" } : Jvm.MethodName)) ∈ ab_GW := ab_gw 920 (by decide +kernel) rfl
theorem w_921 : (Jvm.Cond.code ({ cls := "DominoKing", name := "copy", desc := "(IIIII)I" } : Jvm.MethodName) prog_1_method_36_code (8 : Nat) (Option.some Jvm.ClassFile.FieldType.int)) ∈ ab_GW := ab_gw 921 (by decide +kernel) rfl
theorem w_922 : (Jvm.Cond.methodLink "DominoKing" (266 : Nat) ({ cls := "DominoKing$Sheet", name := "hasPlaces", desc := "(II)Z" } : Jvm.MethodName)) ∈ ab_GW := ab_gw 922 (by decide +kernel) rfl
theorem w_923 : (Jvm.Cond.instanceMethod ({ cls := "DominoKing$Sheet", name := "hasPlaces", desc := "(II)Z" } : Jvm.MethodName)) ∈ ab_GW := ab_gw 923 (by decide +kernel) rfl
theorem w_924 : (Jvm.Cond.selects "DominoKing$Sheet" ({ cls := "DominoKing$Sheet", name := "hasPlaces", desc := "(II)Z" } : Jvm.MethodName) ({ cls := "DominoKing$Sheet", name := "hasPlaces", desc := "(II)Z" } : Jvm.MethodName)) ∈ ab_GW := ab_gw 924 (by decide +kernel) rfl
theorem w_925 : (Jvm.Cond.code ({ cls := "DominoKing$Sheet", name := "hasPlaces", desc := "(II)Z" } : Jvm.MethodName) prog_4_method_7_code (3 : Nat) (Option.some Jvm.ClassFile.FieldType.boolean)) ∈ ab_GW := ab_gw 925 (by decide +kernel) rfl
theorem w_926 : (Jvm.Cond.methodLink "DominoKing" (269 : Nat) ({ cls := "java/lang/System", name := "arraycopy", desc := "(Ljava/lang/Object;ILjava/lang/Object;II)V" } : Jvm.MethodName)) ∈ ab_GW := ab_gw 926 (by decide +kernel) rfl
theorem w_927 : (Jvm.Cond.methodLink "DominoKingLaw" (158 : Nat) ({ cls := "DominoKing", name := "lay", desc := "(III)I" } : Jvm.MethodName)) ∈ ab_GW := ab_gw 927 (by decide +kernel) rfl
theorem w_928 : (Jvm.Cond.instanceMethod ({ cls := "DominoKing", name := "lay", desc := "(III)I" } : Jvm.MethodName)) ∈ ab_GW := ab_gw 928 (by decide +kernel) rfl
theorem w_929 : (Jvm.Cond.selects "DominoKing" ({ cls := "DominoKing", name := "lay", desc := "(III)I" } : Jvm.MethodName) ({ cls := "DominoKing", name := "lay", desc := "(III)I" } : Jvm.MethodName)) ∈ ab_GW := ab_gw 929 (by decide +kernel) rfl
theorem w_930 : (Jvm.Cond.code ({ cls := "DominoKing", name := "lay", desc := "(III)I" } : Jvm.MethodName) prog_1_method_37_code (6 : Nat) (Option.some Jvm.ClassFile.FieldType.int)) ∈ ab_GW := ab_gw 930 (by decide +kernel) rfl
theorem w_931 : (Jvm.Cond.methodLink "DominoKing" (275 : Nat) ({ cls := "DominoKing", name := "isSlot", desc := "(I)Z" } : Jvm.MethodName)) ∈ ab_GW := ab_gw 931 (by decide +kernel) rfl
theorem w_932 : (Jvm.Cond.static ({ cls := "DominoKing", name := "isSlot", desc := "(I)Z" } : Jvm.MethodName)) ∈ ab_GW := ab_gw 932 (by decide +kernel) rfl
theorem w_933 : (Jvm.Cond.code ({ cls := "DominoKing", name := "isSlot", desc := "(I)Z" } : Jvm.MethodName) prog_1_method_49_code (1 : Nat) (Option.some Jvm.ClassFile.FieldType.boolean)) ∈ ab_GW := ab_gw 933 (by decide +kernel) rfl
theorem w_934 : (Jvm.Cond.methodLink "DominoKing" (281 : Nat) ({ cls := "DominoKing$Slot", name := "takeStone", desc := "(III)V" } : Jvm.MethodName)) ∈ ab_GW := ab_gw 934 (by decide +kernel) rfl
theorem w_935 : (Jvm.Cond.instanceMethod ({ cls := "DominoKing$Slot", name := "takeStone", desc := "(III)V" } : Jvm.MethodName)) ∈ ab_GW := ab_gw 935 (by decide +kernel) rfl
theorem w_936 : (Jvm.Cond.selects "DominoKing$Slot" ({ cls := "DominoKing$Slot", name := "takeStone", desc := "(III)V" } : Jvm.MethodName) ({ cls := "DominoKing$Slot", name := "takeStone", desc := "(III)V" } : Jvm.MethodName)) ∈ ab_GW := ab_gw 936 (by decide +kernel) rfl
theorem w_937 : (Jvm.Cond.code ({ cls := "DominoKing$Slot", name := "takeStone", desc := "(III)V" } : Jvm.MethodName) prog_5_method_2_code (4 : Nat) (Option.none : Option Jvm.ClassFile.FieldType)) ∈ ab_GW := ab_gw 937 (by decide +kernel) rfl
theorem w_938 : (Jvm.Cond.methodLink "DominoKing" (289 : Nat) ({ cls := "DominoKing$Sheet", name := "becomeLike", desc := "(LDominoKing$Sheet;)V" } : Jvm.MethodName)) ∈ ab_GW := ab_gw 938 (by decide +kernel) rfl
theorem w_939 : (Jvm.Cond.instanceMethod ({ cls := "DominoKing$Sheet", name := "becomeLike", desc := "(LDominoKing$Sheet;)V" } : Jvm.MethodName)) ∈ ab_GW := ab_gw 939 (by decide +kernel) rfl
theorem w_940 : (Jvm.Cond.selects "DominoKing$Sheet" ({ cls := "DominoKing$Sheet", name := "becomeLike", desc := "(LDominoKing$Sheet;)V" } : Jvm.MethodName) ({ cls := "DominoKing$Sheet", name := "becomeLike", desc := "(LDominoKing$Sheet;)V" } : Jvm.MethodName)) ∈ ab_GW := ab_gw 940 (by decide +kernel) rfl
theorem w_941 : (Jvm.Cond.code ({ cls := "DominoKing$Sheet", name := "becomeLike", desc := "(LDominoKing$Sheet;)V" } : Jvm.MethodName) prog_4_method_4_code (2 : Nat) (Option.none : Option Jvm.ClassFile.FieldType)) ∈ ab_GW := ab_gw 941 (by decide +kernel) rfl
theorem w_942 : (Jvm.Cond.methodLink "DominoKing$Sheet" (28 : Nat) ({ cls := "java/lang/System", name := "arraycopy", desc := "(Ljava/lang/Object;ILjava/lang/Object;II)V" } : Jvm.MethodName)) ∈ ab_GW := ab_gw 942 (by decide +kernel) rfl
theorem w_943 : (Jvm.Cond.methodLink "DominoKingLaw" (162 : Nat) ({ cls := "DominoKing", name := "ask", desc := "(II)I" } : Jvm.MethodName)) ∈ ab_GW := ab_gw 943 (by decide +kernel) rfl
theorem w_944 : (Jvm.Cond.instanceMethod ({ cls := "DominoKing", name := "ask", desc := "(II)I" } : Jvm.MethodName)) ∈ ab_GW := ab_gw 944 (by decide +kernel) rfl
theorem w_945 : (Jvm.Cond.selects "DominoKing" ({ cls := "DominoKing", name := "ask", desc := "(II)I" } : Jvm.MethodName) ({ cls := "DominoKing", name := "ask", desc := "(II)I" } : Jvm.MethodName)) ∈ ab_GW := ab_gw 945 (by decide +kernel) rfl
theorem w_946 : (Jvm.Cond.code ({ cls := "DominoKing", name := "ask", desc := "(II)I" } : Jvm.MethodName) prog_1_method_38_code (5 : Nat) (Option.some Jvm.ClassFile.FieldType.int)) ∈ ab_GW := ab_gw 946 (by decide +kernel) rfl
theorem w_947 : (Jvm.Cond.methodLink "DominoKing" (296 : Nat) ({ cls := "DominoKing", name := "lookFor", desc := "(II)I" } : Jvm.MethodName)) ∈ ab_GW := ab_gw 947 (by decide +kernel) rfl
theorem w_949 : (Jvm.Cond.instanceMethod ({ cls := "DominoKing", name := "lookFor", desc := "(II)I" } : Jvm.MethodName)) ∈ ab_GW := ab_gw 949 (by decide +kernel) rfl
theorem w_950 : (Jvm.Cond.code ({ cls := "DominoKing", name := "lookFor", desc := "(II)I" } : Jvm.MethodName) prog_1_method_53_code (3 : Nat) (Option.some Jvm.ClassFile.FieldType.int)) ∈ ab_GW := ab_gw 950 (by decide +kernel) rfl
theorem w_951 : (Jvm.Cond.methodLink "DominoKingLaw" (166 : Nat) ({ cls := "DominoKing", name := "item", desc := "(II)I" } : Jvm.MethodName)) ∈ ab_GW := ab_gw 951 (by decide +kernel) rfl
theorem w_952 : (Jvm.Cond.instanceMethod ({ cls := "DominoKing", name := "item", desc := "(II)I" } : Jvm.MethodName)) ∈ ab_GW := ab_gw 952 (by decide +kernel) rfl
theorem w_953 : (Jvm.Cond.selects "DominoKing" ({ cls := "DominoKing", name := "item", desc := "(II)I" } : Jvm.MethodName) ({ cls := "DominoKing", name := "item", desc := "(II)I" } : Jvm.MethodName)) ∈ ab_GW := ab_gw 953 (by decide +kernel) rfl
theorem w_954 : (Jvm.Cond.code ({ cls := "DominoKing", name := "item", desc := "(II)I" } : Jvm.MethodName) prog_1_method_39_code (5 : Nat) (Option.some Jvm.ClassFile.FieldType.int)) ∈ ab_GW := ab_gw 954 (by decide +kernel) rfl
theorem w_955 : (Jvm.Cond.methodLink "DominoKingLaw" (170 : Nat) ({ cls := "DominoKing", name := "rest", desc := "(II)I" } : Jvm.MethodName)) ∈ ab_GW := ab_gw 955 (by decide +kernel) rfl
theorem w_956 : (Jvm.Cond.instanceMethod ({ cls := "DominoKing", name := "rest", desc := "(II)I" } : Jvm.MethodName)) ∈ ab_GW := ab_gw 956 (by decide +kernel) rfl
theorem w_957 : (Jvm.Cond.selects "DominoKing" ({ cls := "DominoKing", name := "rest", desc := "(II)I" } : Jvm.MethodName) ({ cls := "DominoKing", name := "rest", desc := "(II)I" } : Jvm.MethodName)) ∈ ab_GW := ab_gw 957 (by decide +kernel) rfl
theorem w_958 : (Jvm.Cond.code ({ cls := "DominoKing", name := "rest", desc := "(II)I" } : Jvm.MethodName) prog_1_method_40_code (4 : Nat) (Option.some Jvm.ClassFile.FieldType.int)) ∈ ab_GW := ab_gw 958 (by decide +kernel) rfl
theorem w_959 : (Jvm.Cond.methodLink "DominoKingLaw" (174 : Nat) ({ cls := "DominoKing", name := "tell", desc := "(I)I" } : Jvm.MethodName)) ∈ ab_GW := ab_gw 959 (by decide +kernel) rfl
theorem w_960 : (Jvm.Cond.instanceMethod ({ cls := "DominoKing", name := "tell", desc := "(I)I" } : Jvm.MethodName)) ∈ ab_GW := ab_gw 960 (by decide +kernel) rfl
theorem w_961 : (Jvm.Cond.selects "DominoKing" ({ cls := "DominoKing", name := "tell", desc := "(I)I" } : Jvm.MethodName) ({ cls := "DominoKing", name := "tell", desc := "(I)I" } : Jvm.MethodName)) ∈ ab_GW := ab_gw 961 (by decide +kernel) rfl
theorem w_962 : (Jvm.Cond.code ({ cls := "DominoKing", name := "tell", desc := "(I)I" } : Jvm.MethodName) prog_1_method_41_code (2 : Nat) (Option.some Jvm.ClassFile.FieldType.int)) ∈ ab_GW := ab_gw 962 (by decide +kernel) rfl
theorem w_963 : (Jvm.Cond.methodLink "DominoKingLaw" (178 : Nat) ({ cls := "DominoKing", name := "check", desc := "(I)I" } : Jvm.MethodName)) ∈ ab_GW := ab_gw 963 (by decide +kernel) rfl
theorem w_964 : (Jvm.Cond.instanceMethod ({ cls := "DominoKing", name := "check", desc := "(I)I" } : Jvm.MethodName)) ∈ ab_GW := ab_gw 964 (by decide +kernel) rfl
theorem w_965 : (Jvm.Cond.selects "DominoKing" ({ cls := "DominoKing", name := "check", desc := "(I)I" } : Jvm.MethodName) ({ cls := "DominoKing", name := "check", desc := "(I)I" } : Jvm.MethodName)) ∈ ab_GW := ab_gw 965 (by decide +kernel) rfl
theorem w_966 : (Jvm.Cond.code ({ cls := "DominoKing", name := "check", desc := "(I)I" } : Jvm.MethodName) prog_1_method_42_code (4 : Nat) (Option.some Jvm.ClassFile.FieldType.int)) ∈ ab_GW := ab_gw 966 (by decide +kernel) rfl
theorem w_967 : (Jvm.Cond.methodLink "DominoKing" (315 : Nat) ({ cls := "DominoKing$Thoughts", name := "rightAhead", desc := "(LDominoKing$Table;I[II)I" } : Jvm.MethodName)) ∈ ab_GW := ab_gw 967 (by decide +kernel) rfl
theorem w_968 : (Jvm.Cond.instanceMethod ({ cls := "DominoKing$Thoughts", name := "rightAhead", desc := "(LDominoKing$Table;I[II)I" } : Jvm.MethodName)) ∈ ab_GW := ab_gw 968 (by decide +kernel) rfl
theorem w_969 : (Jvm.Cond.selects "DominoKing$Thoughts" ({ cls := "DominoKing$Thoughts", name := "rightAhead", desc := "(LDominoKing$Table;I[II)I" } : Jvm.MethodName) ({ cls := "DominoKing$Thoughts", name := "rightAhead", desc := "(LDominoKing$Table;I[II)I" } : Jvm.MethodName)) ∈ ab_GW := ab_gw 969 (by decide +kernel) rfl
theorem w_970 : (Jvm.Cond.code ({ cls := "DominoKing$Thoughts", name := "rightAhead", desc := "(LDominoKing$Table;I[II)I" } : Jvm.MethodName) prog_9_method_5_code (7 : Nat) (Option.some Jvm.ClassFile.FieldType.int)) ∈ ab_GW := ab_gw 970 (by decide +kernel) rfl
theorem w_971 : (Jvm.Cond.methodLink "DominoKing$Thoughts" (52 : Nat) ({ cls := "DominoKing$Table", name := "matches", desc := "()I" } : Jvm.MethodName)) ∈ ab_GW := ab_gw 971 (by decide +kernel) rfl
theorem w_972 : (Jvm.Cond.methodLink "DominoKingLaw" (182 : Nat) ({ cls := "DominoKing", name := "keep", desc := "()I" } : Jvm.MethodName)) ∈ ab_GW := ab_gw 972 (by decide +kernel) rfl
theorem w_973 : (Jvm.Cond.instanceMethod ({ cls := "DominoKing", name := "keep", desc := "()I" } : Jvm.MethodName)) ∈ ab_GW := ab_gw 973 (by decide +kernel) rfl
theorem w_974 : (Jvm.Cond.selects "DominoKing" ({ cls := "DominoKing", name := "keep", desc := "()I" } : Jvm.MethodName) ({ cls := "DominoKing", name := "keep", desc := "()I" } : Jvm.MethodName)) ∈ ab_GW := ab_gw 974 (by decide +kernel) rfl
theorem w_975 : (Jvm.Cond.code ({ cls := "DominoKing", name := "keep", desc := "()I" } : Jvm.MethodName) prog_1_method_43_code (1 : Nat) (Option.some Jvm.ClassFile.FieldType.int)) ∈ ab_GW := ab_gw 975 (by decide +kernel) rfl
theorem w_976 : (Jvm.Cond.methodLink "DominoKing" (319 : Nat) ({ cls := "DominoKing$Table", name := "become", desc := "(LDominoKing$Table;)V" } : Jvm.MethodName)) ∈ ab_GW := ab_gw 976 (by decide +kernel) rfl
theorem w_977 : (Jvm.Cond.methodLink "DominoKingLaw" (186 : Nat) ({ cls := "DominoKing", name := "back", desc := "()I" } : Jvm.MethodName)) ∈ ab_GW := ab_gw 977 (by decide +kernel) rfl
theorem w_978 : (Jvm.Cond.instanceMethod ({ cls := "DominoKing", name := "back", desc := "()I" } : Jvm.MethodName)) ∈ ab_GW := ab_gw 978 (by decide +kernel) rfl
theorem w_979 : (Jvm.Cond.selects "DominoKing" ({ cls := "DominoKing", name := "back", desc := "()I" } : Jvm.MethodName) ({ cls := "DominoKing", name := "back", desc := "()I" } : Jvm.MethodName)) ∈ ab_GW := ab_gw 979 (by decide +kernel) rfl
theorem w_980 : (Jvm.Cond.code ({ cls := "DominoKing", name := "back", desc := "()I" } : Jvm.MethodName) prog_1_method_44_code (1 : Nat) (Option.some Jvm.ClassFile.FieldType.int)) ∈ ab_GW := ab_gw 980 (by decide +kernel) rfl
theorem w_981 : (Jvm.Cond.methodLink "DominoKingLaw" (190 : Nat) ({ cls := "DominoKing", name := "count", desc := "(I)I" } : Jvm.MethodName)) ∈ ab_GW := ab_gw 981 (by decide +kernel) rfl
theorem w_982 : (Jvm.Cond.instanceMethod ({ cls := "DominoKing", name := "count", desc := "(I)I" } : Jvm.MethodName)) ∈ ab_GW := ab_gw 982 (by decide +kernel) rfl
theorem w_983 : (Jvm.Cond.selects "DominoKing" ({ cls := "DominoKing", name := "count", desc := "(I)I" } : Jvm.MethodName) ({ cls := "DominoKing", name := "count", desc := "(I)I" } : Jvm.MethodName)) ∈ ab_GW := ab_gw 983 (by decide +kernel) rfl
theorem w_984 : (Jvm.Cond.code ({ cls := "DominoKing", name := "count", desc := "(I)I" } : Jvm.MethodName) prog_1_method_45_code (2 : Nat) (Option.some Jvm.ClassFile.FieldType.int)) ∈ ab_GW := ab_gw 984 (by decide +kernel) rfl
theorem w_985 : (Jvm.Cond.classLink "DominoKingLaw" (10 : Nat) "DominoKingModel") ∈ ab_GW := ab_gw 985 (by decide +kernel) rfl
theorem w_986 : (Jvm.Cond.instantiable "DominoKingModel" (36 : Nat)) ∈ ab_GW := ab_gw 986 (by decide +kernel) rfl
theorem w_987 : (Jvm.Cond.methodLink "DominoKingLaw" (12 : Nat) ({ cls := "DominoKingModel", name := "<init>", desc := "()V" } : Jvm.MethodName)) ∈ ab_GW := ab_gw 987 (by decide +kernel) rfl
theorem w_988 : (Jvm.Cond.instanceMethod ({ cls := "DominoKingModel", name := "<init>", desc := "()V" } : Jvm.MethodName)) ∈ ab_GW := ab_gw 988 (by decide +kernel) rfl
theorem w_989 : (Jvm.Cond.code ({ cls := "DominoKingModel", name := "<init>", desc := "()V" } : Jvm.MethodName) prog_11_method_1_code (2 : Nat) (Option.none : Option Jvm.ClassFile.FieldType)) ∈ ab_GW := ab_gw 989 (by decide +kernel) rfl
theorem w_990 : (Jvm.Cond.methodLink "DominoKingModel" (1 : Nat) ({ cls := "java/lang/Object", name := "<init>", desc := "()V" } : Jvm.MethodName)) ∈ ab_GW := ab_gw 990 (by decide +kernel) rfl
theorem w_991 : (Jvm.Cond.fieldLink "DominoKingModel" (9 : Nat) "DominoKingModel" "now" "[I") ∈ ab_GW := ab_gw 991 (by decide +kernel) rfl
theorem w_992 : (Jvm.Cond.fieldLink "DominoKingModel" (13 : Nat) "DominoKingModel" "image" "[I") ∈ ab_GW := ab_gw 992 (by decide +kernel) rfl
theorem w_993 : (Jvm.Cond.fieldLink "DominoKingModel" (16 : Nat) "DominoKingModel" "aside" "[I") ∈ ab_GW := ab_gw 993 (by decide +kernel) rfl
theorem w_994 : (Jvm.Cond.fieldLink "DominoKingModel" (290 : Nat) "DominoKingModel" "hasImage" "Z") ∈ ab_GW := ab_gw 994 (by decide +kernel) rfl
theorem w_995 : (Jvm.Cond.fieldLink "DominoKingModel" (19 : Nat) "DominoKingModel" "away" "I") ∈ ab_GW := ab_gw 995 (by decide +kernel) rfl
theorem w_996 : (Jvm.Cond.fieldLink "DominoKingModel" (23 : Nat) "DominoKingModel" "leastOf" "[I") ∈ ab_GW := ab_gw 996 (by decide +kernel) rfl
theorem w_997 : (Jvm.Cond.fieldLink "DominoKingModel" (26 : Nat) "DominoKingModel" "cost" "[I") ∈ ab_GW := ab_gw 997 (by decide +kernel) rfl
theorem w_998 : (Jvm.Cond.fieldLink "DominoKingModel" (29 : Nat) "DominoKingModel" "before" "[I") ∈ ab_GW := ab_gw 998 (by decide +kernel) rfl
theorem w_999 : (Jvm.Cond.fieldLink "DominoKingModel" (32 : Nat) "DominoKingModel" "tape" "[I") ∈ ab_GW := ab_gw 999 (by decide +kernel) rfl
theorem w_1000 : (Jvm.Cond.fieldLink "DominoKingModel" (214 : Nat) "DominoKingModel" "taped" "I") ∈ ab_GW := ab_gw 1000 (by decide +kernel) rfl
theorem w_1001 : (Jvm.Cond.fieldLink "DominoKingModel" (217 : Nat) "DominoKingModel" "next" "I") ∈ ab_GW := ab_gw 1001 (by decide +kernel) rfl
theorem w_1002 : (Jvm.Cond.fieldLink "DominoKingModel" (220 : Nat) "DominoKingModel" "from" "I") ∈ ab_GW := ab_gw 1002 (by decide +kernel) rfl
theorem w_1003 : (Jvm.Cond.fieldLink "DominoKingModel" (226 : Nat) "DominoKingModel" "token" "I") ∈ ab_GW := ab_gw 1003 (by decide +kernel) rfl
theorem w_1004 : (Jvm.Cond.fieldLink "DominoKingModel" (232 : Nat) "DominoKingModel" "value" "I") ∈ ab_GW := ab_gw 1004 (by decide +kernel) rfl
theorem w_1005 : (Jvm.Cond.fieldLink "DominoKingModel" (223 : Nat) "DominoKingModel" "ended" "I") ∈ ab_GW := ab_gw 1005 (by decide +kernel) rfl
theorem w_1006 : (Jvm.Cond.fieldLink "DominoKingModel" (238 : Nat) "DominoKingModel" "key" "I") ∈ ab_GW := ab_gw 1006 (by decide +kernel) rfl
theorem w_1007 : (Jvm.Cond.fieldLink "DominoKingModel" (35 : Nat) "DominoKingModel" "keys" "[C") ∈ ab_GW := ab_gw 1007 (by decide +kernel) rfl
theorem w_1008 : (Jvm.Cond.fieldLink "DominoKingModel" (39 : Nat) "DominoKingModel" "keyAt" "[I") ∈ ab_GW := ab_gw 1008 (by decide +kernel) rfl
theorem w_1009 : (Jvm.Cond.fieldLink "DominoKingModel" (42 : Nat) "DominoKingModel" "code" "[I") ∈ ab_GW := ab_gw 1009 (by decide +kernel) rfl
theorem w_1010 : (Jvm.Cond.fieldLink "DominoKingModel" (250 : Nat) "DominoKingModel" "codes" "I") ∈ ab_GW := ab_gw 1010 (by decide +kernel) rfl
theorem w_1011 : (Jvm.Cond.fieldLink "DominoKingModel" (256 : Nat) "DominoKingModel" "atoms" "I") ∈ ab_GW := ab_gw 1011 (by decide +kernel) rfl
theorem w_1012 : (Jvm.Cond.fieldLink "DominoKingModel" (45 : Nat) "DominoKingModel" "waits" "[I") ∈ ab_GW := ab_gw 1012 (by decide +kernel) rfl
theorem w_1013 : (Jvm.Cond.fieldLink "DominoKingModel" (244 : Nat) "DominoKingModel" "held" "I") ∈ ab_GW := ab_gw 1013 (by decide +kernel) rfl
theorem w_1014 : (Jvm.Cond.fieldLink "DominoKingModel" (48 : Nat) "DominoKingModel" "tested" "[Z") ∈ ab_GW := ab_gw 1014 (by decide +kernel) rfl
theorem w_1015 : (Jvm.Cond.fieldLink "DominoKingModel" (52 : Nat) "DominoKingModel" "stack" "[I") ∈ ab_GW := ab_gw 1015 (by decide +kernel) rfl
theorem w_1016 : (Jvm.Cond.fieldLink "DominoKingModel" (55 : Nat) "DominoKingModel" "facts" "[I") ∈ ab_GW := ab_gw 1016 (by decide +kernel) rfl
theorem w_1017 : (Jvm.Cond.fieldLink "DominoKingModel" (58 : Nat) "DominoKingModel" "sorts" "[I") ∈ ab_GW := ab_gw 1017 (by decide +kernel) rfl
theorem w_1018 : (Jvm.Cond.fieldLink "DominoKingModel" (61 : Nat) "DominoKingModel" "sizes" "[I") ∈ ab_GW := ab_gw 1018 (by decide +kernel) rfl
theorem w_1019 : (Jvm.Cond.fieldLink "DominoKingModel" (64 : Nat) "DominoKingModel" "cells" "[I") ∈ ab_GW := ab_gw 1019 (by decide +kernel) rfl
theorem w_1020 : (Jvm.Cond.fieldLink "DominoKingModel" (67 : Nat) "DominoKingModel" "holds" "[I") ∈ ab_GW := ab_gw 1020 (by decide +kernel) rfl
theorem w_1021 : (Jvm.Cond.fieldLink "DominoKingModel" (70 : Nat) "DominoKingModel" "holdsA" "[I") ∈ ab_GW := ab_gw 1021 (by decide +kernel) rfl
theorem w_1022 : (Jvm.Cond.fieldLink "DominoKingModel" (73 : Nat) "DominoKingModel" "holdsB" "[I") ∈ ab_GW := ab_gw 1022 (by decide +kernel) rfl
theorem w_1023 : (Jvm.Cond.fieldLink "DominoKingModel" (76 : Nat) "DominoKingModel" "heldCells" "[I") ∈ ab_GW := ab_gw 1023 (by decide +kernel) rfl
theorem w_1024 : (Jvm.Cond.fieldLink "DominoKingModel" (79 : Nat) "DominoKingModel" "moved" "[I") ∈ ab_GW := ab_gw 1024 (by decide +kernel) rfl
theorem w_1025 : (Jvm.Cond.fieldLink "DominoKingModel" (82 : Nat) "DominoKingModel" "tells" "[I") ∈ ab_GW := ab_gw 1025 (by decide +kernel) rfl
theorem w_1026 : (Jvm.Cond.fieldLink "DominoKingModel" (287 : Nat) "DominoKingModel" "waiting" "I") ∈ ab_GW := ab_gw 1026 (by decide +kernel) rfl
theorem w_1100 : (Jvm.Cond.arrayClass Jvm.ClassFile.FieldType.char) ∈ ab_GW := ab_gw 1100 (by decide +kernel) rfl
theorem w_1101 : (Jvm.Cond.arrayClass Jvm.ClassFile.FieldType.boolean) ∈ ab_GW := ab_gw 1101 (by decide +kernel) rfl
theorem w_1102 : (Jvm.Cond.methodLink "DominoKingLaw" (17 : Nat) ({ cls := "DominoKingModel", name := "stone", desc := "(III)I" } : Jvm.MethodName)) ∈ ab_GW := ab_gw 1102 (by decide +kernel) rfl
theorem w_1103 : (Jvm.Cond.instanceMethod ({ cls := "DominoKingModel", name := "stone", desc := "(III)I" } : Jvm.MethodName)) ∈ ab_GW := ab_gw 1103 (by decide +kernel) rfl
theorem w_1104 : (Jvm.Cond.selects "DominoKingModel" ({ cls := "DominoKingModel", name := "stone", desc := "(III)I" } : Jvm.MethodName) ({ cls := "DominoKingModel", name := "stone", desc := "(III)I" } : Jvm.MethodName)) ∈ ab_GW := ab_gw 1104 (by decide +kernel) rfl
theorem w_1105 : (Jvm.Cond.code ({ cls := "DominoKingModel", name := "stone", desc := "(III)I" } : Jvm.MethodName) prog_11_method_12_code (4 : Nat) (Option.some Jvm.ClassFile.FieldType.int)) ∈ ab_GW := ab_gw 1105 (by decide +kernel) rfl
theorem w_1106 : (Jvm.Cond.methodLink "DominoKingModel" (86 : Nat) ({ cls := "DominoKingModel", name := "in", desc := "(III)Z" } : Jvm.MethodName)) ∈ ab_GW := ab_gw 1106 (by decide +kernel) rfl
theorem w_1107 : (Jvm.Cond.static ({ cls := "DominoKingModel", name := "in", desc := "(III)Z" } : Jvm.MethodName)) ∈ ab_GW := ab_gw 1107 (by decide +kernel) rfl
theorem w_1108 : (Jvm.Cond.code ({ cls := "DominoKingModel", name := "in", desc := "(III)Z" } : Jvm.MethodName) prog_11_method_2_code (3 : Nat) (Option.some Jvm.ClassFile.FieldType.boolean)) ∈ ab_GW := ab_gw 1108 (by decide +kernel) rfl
theorem w_1109 : (Jvm.Cond.constant "DominoKingModel" (90 : Nat) (-1000000001 : Int32)) ∈ ab_GW := ab_gw 1109 (by decide +kernel) rfl
theorem w_1110 : (Jvm.Cond.constant "DominoKingModel" (91 : Nat) (-1000000003 : Int32)) ∈ ab_GW := ab_gw 1110 (by decide +kernel) rfl
theorem w_1111 : (Jvm.Cond.methodLink "DominoKingModel" (92 : Nat) ({ cls := "DominoKingModel", name := "comes", desc := "(III)I" } : Jvm.MethodName)) ∈ ab_GW := ab_gw 1111 (by decide +kernel) rfl
theorem w_1113 : (Jvm.Cond.instanceMethod ({ cls := "DominoKingModel", name := "comes", desc := "(III)I" } : Jvm.MethodName)) ∈ ab_GW := ab_gw 1113 (by decide +kernel) rfl
theorem w_1114 : (Jvm.Cond.code ({ cls := "DominoKingModel", name := "comes", desc := "(III)I" } : Jvm.MethodName) prog_11_method_11_code (6 : Nat) (Option.some Jvm.ClassFile.FieldType.int)) ∈ ab_GW := ab_gw 1114 (by decide +kernel) rfl
theorem w_1115 : (Jvm.Cond.methodLink "DominoKingLaw" (22 : Nat) ({ cls := "DominoKingModel", name := "told", desc := "(II)I" } : Jvm.MethodName)) ∈ ab_GW := ab_gw 1115 (by decide +kernel) rfl
theorem w_1116 : (Jvm.Cond.instanceMethod ({ cls := "DominoKingModel", name := "told", desc := "(II)I" } : Jvm.MethodName)) ∈ ab_GW := ab_gw 1116 (by decide +kernel) rfl
theorem w_1117 : (Jvm.Cond.selects "DominoKingModel" ({ cls := "DominoKingModel", name := "told", desc := "(II)I" } : Jvm.MethodName) ({ cls := "DominoKingModel", name := "told", desc := "(II)I" } : Jvm.MethodName)) ∈ ab_GW := ab_gw 1117 (by decide +kernel) rfl
theorem w_1118 : (Jvm.Cond.code ({ cls := "DominoKingModel", name := "told", desc := "(II)I" } : Jvm.MethodName) prog_11_method_15_code (3 : Nat) (Option.some Jvm.ClassFile.FieldType.int)) ∈ ab_GW := ab_gw 1118 (by decide +kernel) rfl
theorem w_1119 : (Jvm.Cond.methodLink "DominoKingModel" (100 : Nat) ({ cls := "DominoKingModel", name := "isStone", desc := "(I)Z" } : Jvm.MethodName)) ∈ ab_GW := ab_gw 1119 (by decide +kernel) rfl
theorem w_1121 : (Jvm.Cond.instanceMethod ({ cls := "DominoKingModel", name := "isStone", desc := "(I)Z" } : Jvm.MethodName)) ∈ ab_GW := ab_gw 1121 (by decide +kernel) rfl
theorem w_1122 : (Jvm.Cond.code ({ cls := "DominoKingModel", name := "isStone", desc := "(I)Z" } : Jvm.MethodName) prog_11_method_7_code (2 : Nat) (Option.some Jvm.ClassFile.FieldType.boolean)) ∈ ab_GW := ab_gw 1122 (by decide +kernel) rfl
theorem w_1123 : (Jvm.Cond.methodLink "DominoKingModel" (96 : Nat) ({ cls := "DominoKingModel", name := "of", desc := "(II)I" } : Jvm.MethodName)) ∈ ab_GW := ab_gw 1123 (by decide +kernel) rfl
theorem w_1125 : (Jvm.Cond.instanceMethod ({ cls := "DominoKingModel", name := "of", desc := "(II)I" } : Jvm.MethodName)) ∈ ab_GW := ab_gw 1125 (by decide +kernel) rfl
theorem w_1126 : (Jvm.Cond.code ({ cls := "DominoKingModel", name := "of", desc := "(II)I" } : Jvm.MethodName) prog_11_method_9_code (3 : Nat) (Option.some Jvm.ClassFile.FieldType.int)) ∈ ab_GW := ab_gw 1126 (by decide +kernel) rfl
theorem w_1127 : (Jvm.Cond.methodLink "DominoKingModel" (104 : Nat) ({ cls := "DominoKingModel", name := "heavyOf", desc := "(I)I" } : Jvm.MethodName)) ∈ ab_GW := ab_gw 1127 (by decide +kernel) rfl
theorem w_1129 : (Jvm.Cond.instanceMethod ({ cls := "DominoKingModel", name := "heavyOf", desc := "(I)I" } : Jvm.MethodName)) ∈ ab_GW := ab_gw 1129 (by decide +kernel) rfl
theorem w_1130 : (Jvm.Cond.code ({ cls := "DominoKingModel", name := "heavyOf", desc := "(I)I" } : Jvm.MethodName) prog_11_method_13_code (3 : Nat) (Option.some Jvm.ClassFile.FieldType.int)) ∈ ab_GW := ab_gw 1130 (by decide +kernel) rfl
theorem w_1131 : (Jvm.Cond.methodLink "DominoKingModel" (108 : Nat) ({ cls := "DominoKingModel", name := "worthOf", desc := "(I)I" } : Jvm.MethodName)) ∈ ab_GW := ab_gw 1131 (by decide +kernel) rfl
theorem w_1133 : (Jvm.Cond.instanceMethod ({ cls := "DominoKingModel", name := "worthOf", desc := "(I)I" } : Jvm.MethodName)) ∈ ab_GW := ab_gw 1133 (by decide +kernel) rfl
theorem w_1134 : (Jvm.Cond.code ({ cls := "DominoKingModel", name := "worthOf", desc := "(I)I" } : Jvm.MethodName) prog_11_method_14_code (3 : Nat) (Option.some Jvm.ClassFile.FieldType.int)) ∈ ab_GW := ab_gw 1134 (by decide +kernel) rfl
theorem w_1135 : (Jvm.Cond.methodLink "DominoKingLaw" (26 : Nat) ({ cls := "DominoKingModel", name := "off", desc := "(III)I" } : Jvm.MethodName)) ∈ ab_GW := ab_gw 1135 (by decide +kernel) rfl
theorem w_1136 : (Jvm.Cond.instanceMethod ({ cls := "DominoKingModel", name := "off", desc := "(III)I" } : Jvm.MethodName)) ∈ ab_GW := ab_gw 1136 (by decide +kernel) rfl
theorem w_1137 : (Jvm.Cond.selects "DominoKingModel" ({ cls := "DominoKingModel", name := "off", desc := "(III)I" } : Jvm.MethodName) ({ cls := "DominoKingModel", name := "off", desc := "(III)I" } : Jvm.MethodName)) ∈ ab_GW := ab_gw 1137 (by decide +kernel) rfl
theorem w_1138 : (Jvm.Cond.code ({ cls := "DominoKingModel", name := "off", desc := "(III)I" } : Jvm.MethodName) prog_11_method_19_code (4 : Nat) (Option.some Jvm.ClassFile.FieldType.int)) ∈ ab_GW := ab_gw 1138 (by decide +kernel) rfl
theorem w_1139 : (Jvm.Cond.methodLink "DominoKingModel" (129 : Nat) ({ cls := "DominoKingModel", name := "isPlace", desc := "(I)Z" } : Jvm.MethodName)) ∈ ab_GW := ab_gw 1139 (by decide +kernel) rfl
theorem w_1140 : (Jvm.Cond.static ({ cls := "DominoKingModel", name := "isPlace", desc := "(I)Z" } : Jvm.MethodName)) ∈ ab_GW := ab_gw 1140 (by decide +kernel) rfl
theorem w_1141 : (Jvm.Cond.code ({ cls := "DominoKingModel", name := "isPlace", desc := "(I)Z" } : Jvm.MethodName) prog_11_method_8_code (1 : Nat) (Option.some Jvm.ClassFile.FieldType.boolean)) ∈ ab_GW := ab_gw 1141 (by decide +kernel) rfl
theorem w_1142 : (Jvm.Cond.methodLink "DominoKingModel" (132 : Nat) ({ cls := "DominoKingModel", name := "offOf", desc := "(III)I" } : Jvm.MethodName)) ∈ ab_GW := ab_gw 1142 (by decide +kernel) rfl
theorem w_1144 : (Jvm.Cond.instanceMethod ({ cls := "DominoKingModel", name := "offOf", desc := "(III)I" } : Jvm.MethodName)) ∈ ab_GW := ab_gw 1144 (by decide +kernel) rfl
theorem w_1145 : (Jvm.Cond.code ({ cls := "DominoKingModel", name := "offOf", desc := "(III)I" } : Jvm.MethodName) prog_11_method_18_code (6 : Nat) (Option.some Jvm.ClassFile.FieldType.int)) ∈ ab_GW := ab_gw 1145 (by decide +kernel) rfl
theorem w_1146 : (Jvm.Cond.methodLink "DominoKingModel" (120 : Nat) ({ cls := "DominoKingModel", name := "spotsOf", desc := "(III)I" } : Jvm.MethodName)) ∈ ab_GW := ab_gw 1146 (by decide +kernel) rfl
theorem w_1148 : (Jvm.Cond.instanceMethod ({ cls := "DominoKingModel", name := "spotsOf", desc := "(III)I" } : Jvm.MethodName)) ∈ ab_GW := ab_gw 1148 (by decide +kernel) rfl
theorem w_1149 : (Jvm.Cond.code ({ cls := "DominoKingModel", name := "spotsOf", desc := "(III)I" } : Jvm.MethodName) prog_11_method_16_code (4 : Nat) (Option.some Jvm.ClassFile.FieldType.int)) ∈ ab_GW := ab_gw 1149 (by decide +kernel) rfl
theorem w_1150 : (Jvm.Cond.methodLink "DominoKingModel" (123 : Nat) ({ cls := "DominoKingModel", name := "darkOf", desc := "(III)I" } : Jvm.MethodName)) ∈ ab_GW := ab_gw 1150 (by decide +kernel) rfl
theorem w_1152 : (Jvm.Cond.instanceMethod ({ cls := "DominoKingModel", name := "darkOf", desc := "(III)I" } : Jvm.MethodName)) ∈ ab_GW := ab_gw 1152 (by decide +kernel) rfl
theorem w_1153 : (Jvm.Cond.code ({ cls := "DominoKingModel", name := "darkOf", desc := "(III)I" } : Jvm.MethodName) prog_11_method_17_code (6 : Nat) (Option.some Jvm.ClassFile.FieldType.int)) ∈ ab_GW := ab_gw 1153 (by decide +kernel) rfl
theorem w_1154 : (Jvm.Cond.methodLink "DominoKingModel" (111 : Nat) ({ cls := "DominoKingModel", name := "counts", desc := "(I)I" } : Jvm.MethodName)) ∈ ab_GW := ab_gw 1154 (by decide +kernel) rfl
theorem w_1156 : (Jvm.Cond.instanceMethod ({ cls := "DominoKingModel", name := "counts", desc := "(I)I" } : Jvm.MethodName)) ∈ ab_GW := ab_gw 1156 (by decide +kernel) rfl
theorem w_1157 : (Jvm.Cond.code ({ cls := "DominoKingModel", name := "counts", desc := "(I)I" } : Jvm.MethodName) prog_11_method_76_code (3 : Nat) (Option.some Jvm.ClassFile.FieldType.int)) ∈ ab_GW := ab_gw 1157 (by decide +kernel) rfl
theorem w_1158 : (Jvm.Cond.methodLink "DominoKingModel" (114 : Nat) ({ cls := "DominoKingModel", name := "worksOut", desc := "(I)I" } : Jvm.MethodName)) ∈ ab_GW := ab_gw 1158 (by decide +kernel) rfl
theorem w_1160 : (Jvm.Cond.instanceMethod ({ cls := "DominoKingModel", name := "worksOut", desc := "(I)I" } : Jvm.MethodName)) ∈ ab_GW := ab_gw 1160 (by decide +kernel) rfl
theorem w_1161 : (Jvm.Cond.code ({ cls := "DominoKingModel", name := "worksOut", desc := "(I)I" } : Jvm.MethodName) prog_11_method_79_code (6 : Nat) (Option.some Jvm.ClassFile.FieldType.int)) ∈ ab_GW := ab_gw 1161 (by decide +kernel) rfl
theorem w_1162 : (Jvm.Cond.methodLink "DominoKingModel" (277 : Nat) ({ cls := "DominoKingModel", name := "two", desc := "(III)I" } : Jvm.MethodName)) ∈ ab_GW := ab_gw 1162 (by decide +kernel) rfl
theorem w_1163 : (Jvm.Cond.static ({ cls := "DominoKingModel", name := "two", desc := "(III)I" } : Jvm.MethodName)) ∈ ab_GW := ab_gw 1163 (by decide +kernel) rfl
theorem w_1164 : (Jvm.Cond.code ({ cls := "DominoKingModel", name := "two", desc := "(III)I" } : Jvm.MethodName) prog_11_method_78_code (3 : Nat) (Option.some Jvm.ClassFile.FieldType.int)) ∈ ab_GW := ab_gw 1164 (by decide +kernel) rfl
theorem w_1165 : (Jvm.Cond.methodLink "DominoKingModel" (117 : Nat) ({ cls := "DominoKingModel", name := "within", desc := "(III)I" } : Jvm.MethodName)) ∈ ab_GW := ab_gw 1165 (by decide +kernel) rfl
theorem w_1166 : (Jvm.Cond.static ({ cls := "DominoKingModel", name := "within", desc := "(III)I" } : Jvm.MethodName)) ∈ ab_GW := ab_gw 1166 (by decide +kernel) rfl
theorem w_1167 : (Jvm.Cond.code ({ cls := "DominoKingModel", name := "within", desc := "(III)I" } : Jvm.MethodName) prog_11_method_3_code (3 : Nat) (Option.some Jvm.ClassFile.FieldType.int)) ∈ ab_GW := ab_gw 1167 (by decide +kernel) rfl
theorem w_1168 : (Jvm.Cond.methodLink "DominoKingModel" (126 : Nat) ({ cls := "DominoKingModel", name := "apart", desc := "(II)I" } : Jvm.MethodName)) ∈ ab_GW := ab_gw 1168 (by decide +kernel) rfl
theorem w_1169 : (Jvm.Cond.static ({ cls := "DominoKingModel", name := "apart", desc := "(II)I" } : Jvm.MethodName)) ∈ ab_GW := ab_gw 1169 (by decide +kernel) rfl
theorem w_1170 : (Jvm.Cond.code ({ cls := "DominoKingModel", name := "apart", desc := "(II)I" } : Jvm.MethodName) prog_11_method_4_code (2 : Nat) (Option.some Jvm.ClassFile.FieldType.int)) ∈ ab_GW := ab_gw 1170 (by decide +kernel) rfl
theorem w_1171 : (Jvm.Cond.methodLink "DominoKingLaw" (30 : Nat) ({ cls := "DominoKingModel", name := "as", desc := "(II)I" } : Jvm.MethodName)) ∈ ab_GW := ab_gw 1171 (by decide +kernel) rfl
theorem w_1172 : (Jvm.Cond.instanceMethod ({ cls := "DominoKingModel", name := "as", desc := "(II)I" } : Jvm.MethodName)) ∈ ab_GW := ab_gw 1172 (by decide +kernel) rfl
theorem w_1173 : (Jvm.Cond.selects "DominoKingModel" ({ cls := "DominoKingModel", name := "as", desc := "(II)I" } : Jvm.MethodName) ({ cls := "DominoKingModel", name := "as", desc := "(II)I" } : Jvm.MethodName)) ∈ ab_GW := ab_gw 1173 (by decide +kernel) rfl
theorem w_1174 : (Jvm.Cond.code ({ cls := "DominoKingModel", name := "as", desc := "(II)I" } : Jvm.MethodName) prog_11_method_21_code (3 : Nat) (Option.some Jvm.ClassFile.FieldType.int)) ∈ ab_GW := ab_gw 1174 (by decide +kernel) rfl
theorem w_1175 : (Jvm.Cond.methodLink "DominoKingModel" (135 : Nat) ({ cls := "DominoKingModel", name := "isUnder", desc := "(II)Z" } : Jvm.MethodName)) ∈ ab_GW := ab_gw 1175 (by decide +kernel) rfl
theorem w_1176 : (Jvm.Cond.static ({ cls := "DominoKingModel", name := "isUnder", desc := "(II)Z" } : Jvm.MethodName)) ∈ ab_GW := ab_gw 1176 (by decide +kernel) rfl
theorem w_1177 : (Jvm.Cond.code ({ cls := "DominoKingModel", name := "isUnder", desc := "(II)Z" } : Jvm.MethodName) prog_11_method_20_code (2 : Nat) (Option.some Jvm.ClassFile.FieldType.boolean)) ∈ ab_GW := ab_gw 1177 (by decide +kernel) rfl
theorem w_1178 : (Jvm.Cond.constant "DominoKingModel" (139 : Nat) (-1000000012 : Int32)) ∈ ab_GW := ab_gw 1178 (by decide +kernel) rfl
theorem w_1179 : (Jvm.Cond.methodLink "DominoKingLaw" (34 : Nat) ({ cls := "DominoKingModel", name := "turns", desc := "(II)I" } : Jvm.MethodName)) ∈ ab_GW := ab_gw 1179 (by decide +kernel) rfl
theorem w_1180 : (Jvm.Cond.instanceMethod ({ cls := "DominoKingModel", name := "turns", desc := "(II)I" } : Jvm.MethodName)) ∈ ab_GW := ab_gw 1180 (by decide +kernel) rfl
theorem w_1181 : (Jvm.Cond.selects "DominoKingModel" ({ cls := "DominoKingModel", name := "turns", desc := "(II)I" } : Jvm.MethodName) ({ cls := "DominoKingModel", name := "turns", desc := "(II)I" } : Jvm.MethodName)) ∈ ab_GW := ab_gw 1181 (by decide +kernel) rfl
theorem w_1182 : (Jvm.Cond.code ({ cls := "DominoKingModel", name := "turns", desc := "(II)I" } : Jvm.MethodName) prog_11_method_22_code (3 : Nat) (Option.some Jvm.ClassFile.FieldType.int)) ∈ ab_GW := ab_gw 1182 (by decide +kernel) rfl
theorem w_1183 : (Jvm.Cond.methodLink "DominoKingModel" (140 : Nat) ({ cls := "DominoKingModel", name := "becomes", desc := "(II)I" } : Jvm.MethodName)) ∈ ab_GW := ab_gw 1183 (by decide +kernel) rfl
theorem w_1185 : (Jvm.Cond.instanceMethod ({ cls := "DominoKingModel", name := "becomes", desc := "(II)I" } : Jvm.MethodName)) ∈ ab_GW := ab_gw 1185 (by decide +kernel) rfl
theorem w_1186 : (Jvm.Cond.code ({ cls := "DominoKingModel", name := "becomes", desc := "(II)I" } : Jvm.MethodName) prog_11_method_10_code (4 : Nat) (Option.some Jvm.ClassFile.FieldType.int)) ∈ ab_GW := ab_gw 1186 (by decide +kernel) rfl
theorem w_1187 : (Jvm.Cond.methodLink "DominoKingLaw" (38 : Nat) ({ cls := "DominoKingModel", name := "put", desc := "(III)I" } : Jvm.MethodName)) ∈ ab_GW := ab_gw 1187 (by decide +kernel) rfl
theorem w_1188 : (Jvm.Cond.instanceMethod ({ cls := "DominoKingModel", name := "put", desc := "(III)I" } : Jvm.MethodName)) ∈ ab_GW := ab_gw 1188 (by decide +kernel) rfl
theorem w_1189 : (Jvm.Cond.selects "DominoKingModel" ({ cls := "DominoKingModel", name := "put", desc := "(III)I" } : Jvm.MethodName) ({ cls := "DominoKingModel", name := "put", desc := "(III)I" } : Jvm.MethodName)) ∈ ab_GW := ab_gw 1189 (by decide +kernel) rfl
theorem w_1190 : (Jvm.Cond.code ({ cls := "DominoKingModel", name := "put", desc := "(III)I" } : Jvm.MethodName) prog_11_method_24_code (5 : Nat) (Option.some Jvm.ClassFile.FieldType.int)) ∈ ab_GW := ab_gw 1190 (by decide +kernel) rfl
theorem w_1191 : (Jvm.Cond.methodLink "DominoKingModel" (143 : Nat) ({ cls := "DominoKingModel", name := "holder", desc := "(I)I" } : Jvm.MethodName)) ∈ ab_GW := ab_gw 1191 (by decide +kernel) rfl
theorem w_1193 : (Jvm.Cond.instanceMethod ({ cls := "DominoKingModel", name := "holder", desc := "(I)I" } : Jvm.MethodName)) ∈ ab_GW := ab_gw 1193 (by decide +kernel) rfl
theorem w_1194 : (Jvm.Cond.code ({ cls := "DominoKingModel", name := "holder", desc := "(I)I" } : Jvm.MethodName) prog_11_method_23_code (4 : Nat) (Option.some Jvm.ClassFile.FieldType.int)) ∈ ab_GW := ab_gw 1194 (by decide +kernel) rfl
theorem w_1195 : (Jvm.Cond.constant "DominoKingModel" (146 : Nat) (-1000000002 : Int32)) ∈ ab_GW := ab_gw 1195 (by decide +kernel) rfl
theorem w_1196 : (Jvm.Cond.methodLink "DominoKingLaw" (43 : Nat) ({ cls := "DominoKingModel", name := "box", desc := "(I)I" } : Jvm.MethodName)) ∈ ab_GW := ab_gw 1196 (by decide +kernel) rfl
theorem w_1197 : (Jvm.Cond.instanceMethod ({ cls := "DominoKingModel", name := "box", desc := "(I)I" } : Jvm.MethodName)) ∈ ab_GW := ab_gw 1197 (by decide +kernel) rfl
theorem w_1198 : (Jvm.Cond.selects "DominoKingModel" ({ cls := "DominoKingModel", name := "box", desc := "(I)I" } : Jvm.MethodName) ({ cls := "DominoKingModel", name := "box", desc := "(I)I" } : Jvm.MethodName)) ∈ ab_GW := ab_gw 1198 (by decide +kernel) rfl
theorem w_1199 : (Jvm.Cond.code ({ cls := "DominoKingModel", name := "box", desc := "(I)I" } : Jvm.MethodName) prog_11_method_25_code (2 : Nat) (Option.some Jvm.ClassFile.FieldType.int)) ∈ ab_GW := ab_gw 1199 (by decide +kernel) rfl
theorem w_1200 : (Jvm.Cond.methodLink "DominoKingLaw" (47 : Nat) ({ cls := "DominoKingModel", name := "want", desc := "(II)I" } : Jvm.MethodName)) ∈ ab_GW := ab_gw 1200 (by decide +kernel) rfl
theorem w_1201 : (Jvm.Cond.instanceMethod ({ cls := "DominoKingModel", name := "want", desc := "(II)I" } : Jvm.MethodName)) ∈ ab_GW := ab_gw 1201 (by decide +kernel) rfl
theorem w_1202 : (Jvm.Cond.selects "DominoKingModel" ({ cls := "DominoKingModel", name := "want", desc := "(II)I" } : Jvm.MethodName) ({ cls := "DominoKingModel", name := "want", desc := "(II)I" } : Jvm.MethodName)) ∈ ab_GW := ab_gw 1202 (by decide +kernel) rfl
theorem w_1203 : (Jvm.Cond.code ({ cls := "DominoKingModel", name := "want", desc := "(II)I" } : Jvm.MethodName) prog_11_method_26_code (3 : Nat) (Option.some Jvm.ClassFile.FieldType.int)) ∈ ab_GW := ab_gw 1203 (by decide +kernel) rfl
theorem w_1204 : (Jvm.Cond.methodLink "DominoKingLaw" (51 : Nat) ({ cls := "DominoKingModel", name := "wind", desc := "(I)I" } : Jvm.MethodName)) ∈ ab_GW := ab_gw 1204 (by decide +kernel) rfl
theorem w_1205 : (Jvm.Cond.instanceMethod ({ cls := "DominoKingModel", name := "wind", desc := "(I)I" } : Jvm.MethodName)) ∈ ab_GW := ab_gw 1205 (by decide +kernel) rfl
theorem w_1206 : (Jvm.Cond.selects "DominoKingModel" ({ cls := "DominoKingModel", name := "wind", desc := "(I)I" } : Jvm.MethodName) ({ cls := "DominoKingModel", name := "wind", desc := "(I)I" } : Jvm.MethodName)) ∈ ab_GW := ab_gw 1206 (by decide +kernel) rfl
theorem w_1207 : (Jvm.Cond.code ({ cls := "DominoKingModel", name := "wind", desc := "(I)I" } : Jvm.MethodName) prog_11_method_27_code (2 : Nat) (Option.some Jvm.ClassFile.FieldType.int)) ∈ ab_GW := ab_gw 1207 (by decide +kernel) rfl
theorem w_1208 : (Jvm.Cond.methodLink "DominoKingLaw" (55 : Nat) ({ cls := "DominoKingModel", name := "deal", desc := "(I)I" } : Jvm.MethodName)) ∈ ab_GW := ab_gw 1208 (by decide +kernel) rfl
theorem w_1209 : (Jvm.Cond.instanceMethod ({ cls := "DominoKingModel", name := "deal", desc := "(I)I" } : Jvm.MethodName)) ∈ ab_GW := ab_gw 1209 (by decide +kernel) rfl
theorem w_1210 : (Jvm.Cond.selects "DominoKingModel" ({ cls := "DominoKingModel", name := "deal", desc := "(I)I" } : Jvm.MethodName) ({ cls := "DominoKingModel", name := "deal", desc := "(I)I" } : Jvm.MethodName)) ∈ ab_GW := ab_gw 1210 (by decide +kernel) rfl
theorem w_1211 : (Jvm.Cond.code ({ cls := "DominoKingModel", name := "deal", desc := "(I)I" } : Jvm.MethodName) prog_11_method_29_code (6 : Nat) (Option.some Jvm.ClassFile.FieldType.int)) ∈ ab_GW := ab_gw 1211 (by decide +kernel) rfl
theorem w_1212 : (Jvm.Cond.methodLink "DominoKingModel" (148 : Nat) ({ cls := "DominoKingModel", name := "draw", desc := "()I" } : Jvm.MethodName)) ∈ ab_GW := ab_gw 1212 (by decide +kernel) rfl
theorem w_1214 : (Jvm.Cond.instanceMethod ({ cls := "DominoKingModel", name := "draw", desc := "()I" } : Jvm.MethodName)) ∈ ab_GW := ab_gw 1214 (by decide +kernel) rfl
theorem w_1215 : (Jvm.Cond.code ({ cls := "DominoKingModel", name := "draw", desc := "()I" } : Jvm.MethodName) prog_11_method_28_code (1 : Nat) (Option.some Jvm.ClassFile.FieldType.int)) ∈ ab_GW := ab_gw 1215 (by decide +kernel) rfl
theorem w_1216 : (Jvm.Cond.constant "DominoKingModel" (147 : Nat) (1103515245 : Int32)) ∈ ab_GW := ab_gw 1216 (by decide +kernel) rfl
theorem w_1217 : (Jvm.Cond.methodLink "DominoKingLaw" (59 : Nat) ({ cls := "DominoKingModel", name := "seed", desc := "(I)I" } : Jvm.MethodName)) ∈ ab_GW := ab_gw 1217 (by decide +kernel) rfl
theorem w_1218 : (Jvm.Cond.instanceMethod ({ cls := "DominoKingModel", name := "seed", desc := "(I)I" } : Jvm.MethodName)) ∈ ab_GW := ab_gw 1218 (by decide +kernel) rfl
theorem w_1219 : (Jvm.Cond.selects "DominoKingModel" ({ cls := "DominoKingModel", name := "seed", desc := "(I)I" } : Jvm.MethodName) ({ cls := "DominoKingModel", name := "seed", desc := "(I)I" } : Jvm.MethodName)) ∈ ab_GW := ab_gw 1219 (by decide +kernel) rfl
theorem w_1220 : (Jvm.Cond.code ({ cls := "DominoKingModel", name := "seed", desc := "(I)I" } : Jvm.MethodName) prog_11_method_30_code (2 : Nat) (Option.some Jvm.ClassFile.FieldType.int)) ∈ ab_GW := ab_gw 1220 (by decide +kernel) rfl
theorem w_1221 : (Jvm.Cond.methodLink "DominoKingLaw" (63 : Nat) ({ cls := "DominoKingModel", name := "days", desc := "(I)I" } : Jvm.MethodName)) ∈ ab_GW := ab_gw 1221 (by decide +kernel) rfl
theorem w_1222 : (Jvm.Cond.instanceMethod ({ cls := "DominoKingModel", name := "days", desc := "(I)I" } : Jvm.MethodName)) ∈ ab_GW := ab_gw 1222 (by decide +kernel) rfl
theorem w_1223 : (Jvm.Cond.selects "DominoKingModel" ({ cls := "DominoKingModel", name := "days", desc := "(I)I" } : Jvm.MethodName) ({ cls := "DominoKingModel", name := "days", desc := "(I)I" } : Jvm.MethodName)) ∈ ab_GW := ab_gw 1223 (by decide +kernel) rfl
theorem w_1224 : (Jvm.Cond.code ({ cls := "DominoKingModel", name := "days", desc := "(I)I" } : Jvm.MethodName) prog_11_method_35_code (3 : Nat) (Option.some Jvm.ClassFile.FieldType.int)) ∈ ab_GW := ab_gw 1224 (by decide +kernel) rfl
theorem w_1225 : (Jvm.Cond.methodLink "DominoKingModel" (159 : Nat) ({ cls := "DominoKingModel", name := "manyLaid", desc := "()I" } : Jvm.MethodName)) ∈ ab_GW := ab_gw 1225 (by decide +kernel) rfl
theorem w_1227 : (Jvm.Cond.instanceMethod ({ cls := "DominoKingModel", name := "manyLaid", desc := "()I" } : Jvm.MethodName)) ∈ ab_GW := ab_gw 1227 (by decide +kernel) rfl
theorem w_1228 : (Jvm.Cond.code ({ cls := "DominoKingModel", name := "manyLaid", desc := "()I" } : Jvm.MethodName) prog_11_method_31_code (3 : Nat) (Option.some Jvm.ClassFile.FieldType.int)) ∈ ab_GW := ab_gw 1228 (by decide +kernel) rfl
theorem w_1229 : (Jvm.Cond.methodLink "DominoKingModel" (162 : Nat) ({ cls := "DominoKingModel", name := "goesOn", desc := "(I)V" } : Jvm.MethodName)) ∈ ab_GW := ab_gw 1229 (by decide +kernel) rfl
theorem w_1231 : (Jvm.Cond.instanceMethod ({ cls := "DominoKingModel", name := "goesOn", desc := "(I)V" } : Jvm.MethodName)) ∈ ab_GW := ab_gw 1231 (by decide +kernel) rfl
theorem w_1232 : (Jvm.Cond.code ({ cls := "DominoKingModel", name := "goesOn", desc := "(I)V" } : Jvm.MethodName) prog_11_method_34_code (3 : Nat) (Option.none : Option Jvm.ClassFile.FieldType)) ∈ ab_GW := ab_gw 1232 (by decide +kernel) rfl
theorem w_1233 : (Jvm.Cond.methodLink "DominoKingModel" (156 : Nat) ({ cls := "DominoKingModel", name := "day", desc := "()V" } : Jvm.MethodName)) ∈ ab_GW := ab_gw 1233 (by decide +kernel) rfl
theorem w_1235 : (Jvm.Cond.instanceMethod ({ cls := "DominoKingModel", name := "day", desc := "()V" } : Jvm.MethodName)) ∈ ab_GW := ab_gw 1235 (by decide +kernel) rfl
theorem w_1236 : (Jvm.Cond.code ({ cls := "DominoKingModel", name := "day", desc := "()V" } : Jvm.MethodName) prog_11_method_33_code (2 : Nat) (Option.none : Option Jvm.ClassFile.FieldType)) ∈ ab_GW := ab_gw 1236 (by decide +kernel) rfl
theorem w_1237 : (Jvm.Cond.methodLink "DominoKingModel" (152 : Nat) ({ cls := "DominoKingModel", name := "laysIn", desc := "(I)V" } : Jvm.MethodName)) ∈ ab_GW := ab_gw 1237 (by decide +kernel) rfl
theorem w_1239 : (Jvm.Cond.instanceMethod ({ cls := "DominoKingModel", name := "laysIn", desc := "(I)V" } : Jvm.MethodName)) ∈ ab_GW := ab_gw 1239 (by decide +kernel) rfl
theorem w_1240 : (Jvm.Cond.code ({ cls := "DominoKingModel", name := "laysIn", desc := "(I)V" } : Jvm.MethodName) prog_11_method_32_code (9 : Nat) (Option.none : Option Jvm.ClassFile.FieldType)) ∈ ab_GW := ab_gw 1240 (by decide +kernel) rfl
theorem w_1241 : (Jvm.Cond.methodLink "DominoKingLaw" (67 : Nat) ({ cls := "DominoKingModel", name := "king", desc := "(I)I" } : Jvm.MethodName)) ∈ ab_GW := ab_gw 1241 (by decide +kernel) rfl
theorem w_1242 : (Jvm.Cond.instanceMethod ({ cls := "DominoKingModel", name := "king", desc := "(I)I" } : Jvm.MethodName)) ∈ ab_GW := ab_gw 1242 (by decide +kernel) rfl
theorem w_1243 : (Jvm.Cond.selects "DominoKingModel" ({ cls := "DominoKingModel", name := "king", desc := "(I)I" } : Jvm.MethodName) ({ cls := "DominoKingModel", name := "king", desc := "(I)I" } : Jvm.MethodName)) ∈ ab_GW := ab_gw 1243 (by decide +kernel) rfl
theorem w_1244 : (Jvm.Cond.code ({ cls := "DominoKingModel", name := "king", desc := "(I)I" } : Jvm.MethodName) prog_11_method_38_code (4 : Nat) (Option.some Jvm.ClassFile.FieldType.int)) ∈ ab_GW := ab_gw 1244 (by decide +kernel) rfl
theorem w_1245 : (Jvm.Cond.methodLink "DominoKingModel" (165 : Nat) ({ cls := "DominoKingModel", name := "picture", desc := "()I" } : Jvm.MethodName)) ∈ ab_GW := ab_gw 1245 (by decide +kernel) rfl
theorem w_1247 : (Jvm.Cond.instanceMethod ({ cls := "DominoKingModel", name := "picture", desc := "()I" } : Jvm.MethodName)) ∈ ab_GW := ab_gw 1247 (by decide +kernel) rfl
theorem w_1248 : (Jvm.Cond.code ({ cls := "DominoKingModel", name := "picture", desc := "()I" } : Jvm.MethodName) prog_11_method_36_code (4 : Nat) (Option.some Jvm.ClassFile.FieldType.int)) ∈ ab_GW := ab_gw 1248 (by decide +kernel) rfl
theorem w_1249 : (Jvm.Cond.methodLink "DominoKingModel" (168 : Nat) ({ cls := "DominoKingModel", name := "matches", desc := "()I" } : Jvm.MethodName)) ∈ ab_GW := ab_gw 1249 (by decide +kernel) rfl
theorem w_1251 : (Jvm.Cond.instanceMethod ({ cls := "DominoKingModel", name := "matches", desc := "()I" } : Jvm.MethodName)) ∈ ab_GW := ab_gw 1251 (by decide +kernel) rfl
theorem w_1252 : (Jvm.Cond.code ({ cls := "DominoKingModel", name := "matches", desc := "()I" } : Jvm.MethodName) prog_11_method_37_code (5 : Nat) (Option.some Jvm.ClassFile.FieldType.int)) ∈ ab_GW := ab_gw 1252 (by decide +kernel) rfl
theorem w_1253 : (Jvm.Cond.methodLink "DominoKingLaw" (71 : Nat) ({ cls := "DominoKingModel", name := "at", desc := "(I)I" } : Jvm.MethodName)) ∈ ab_GW := ab_gw 1253 (by decide +kernel) rfl
theorem w_1254 : (Jvm.Cond.instanceMethod ({ cls := "DominoKingModel", name := "at", desc := "(I)I" } : Jvm.MethodName)) ∈ ab_GW := ab_gw 1254 (by decide +kernel) rfl
theorem w_1255 : (Jvm.Cond.selects "DominoKingModel" ({ cls := "DominoKingModel", name := "at", desc := "(I)I" } : Jvm.MethodName) ({ cls := "DominoKingModel", name := "at", desc := "(I)I" } : Jvm.MethodName)) ∈ ab_GW := ab_gw 1255 (by decide +kernel) rfl
theorem w_1256 : (Jvm.Cond.code ({ cls := "DominoKingModel", name := "at", desc := "(I)I" } : Jvm.MethodName) prog_11_method_39_code (2 : Nat) (Option.some Jvm.ClassFile.FieldType.int)) ∈ ab_GW := ab_gw 1256 (by decide +kernel) rfl
theorem w_1257 : (Jvm.Cond.methodLink "DominoKingModel" (171 : Nat) ({ cls := "DominoKingModel", name := "told0", desc := "(I)I" } : Jvm.MethodName)) ∈ ab_GW := ab_gw 1257 (by decide +kernel) rfl
theorem w_1258 : (Jvm.Cond.static ({ cls := "DominoKingModel", name := "told0", desc := "(I)I" } : Jvm.MethodName)) ∈ ab_GW := ab_gw 1258 (by decide +kernel) rfl
theorem w_1259 : (Jvm.Cond.code ({ cls := "DominoKingModel", name := "told0", desc := "(I)I" } : Jvm.MethodName) prog_11_method_6_code (1 : Nat) (Option.some Jvm.ClassFile.FieldType.int)) ∈ ab_GW := ab_gw 1259 (by decide +kernel) rfl
theorem w_1260 : (Jvm.Cond.constant "DominoKingModel" (85 : Nat) (-1000000005 : Int32)) ∈ ab_GW := ab_gw 1260 (by decide +kernel) rfl
theorem w_1261 : (Jvm.Cond.methodLink "DominoKingLaw" (75 : Nat) ({ cls := "DominoKingModel", name := "best", desc := "(II)I" } : Jvm.MethodName)) ∈ ab_GW := ab_gw 1261 (by decide +kernel) rfl
theorem w_1262 : (Jvm.Cond.instanceMethod ({ cls := "DominoKingModel", name := "best", desc := "(II)I" } : Jvm.MethodName)) ∈ ab_GW := ab_gw 1262 (by decide +kernel) rfl
theorem w_1263 : (Jvm.Cond.selects "DominoKingModel" ({ cls := "DominoKingModel", name := "best", desc := "(II)I" } : Jvm.MethodName) ({ cls := "DominoKingModel", name := "best", desc := "(II)I" } : Jvm.MethodName)) ∈ ab_GW := ab_gw 1263 (by decide +kernel) rfl
theorem w_1264 : (Jvm.Cond.code ({ cls := "DominoKingModel", name := "best", desc := "(II)I" } : Jvm.MethodName) prog_11_method_43_code (13 : Nat) (Option.some Jvm.ClassFile.FieldType.int)) ∈ ab_GW := ab_gw 1264 (by decide +kernel) rfl
theorem w_1265 : (Jvm.Cond.methodLink "DominoKingModel" (174 : Nat) ({ cls := "DominoKingModel", name := "layable", desc := "(I)I" } : Jvm.MethodName)) ∈ ab_GW := ab_gw 1265 (by decide +kernel) rfl
theorem w_1267 : (Jvm.Cond.instanceMethod ({ cls := "DominoKingModel", name := "layable", desc := "(I)I" } : Jvm.MethodName)) ∈ ab_GW := ab_gw 1267 (by decide +kernel) rfl
theorem w_1268 : (Jvm.Cond.code ({ cls := "DominoKingModel", name := "layable", desc := "(I)I" } : Jvm.MethodName) prog_11_method_42_code (4 : Nat) (Option.some Jvm.ClassFile.FieldType.int)) ∈ ab_GW := ab_gw 1268 (by decide +kernel) rfl
theorem w_1269 : (Jvm.Cond.methodLink "DominoKingModel" (177 : Nat) ({ cls := "DominoKingModel", name := "leastAt", desc := "(II)I" } : Jvm.MethodName)) ∈ ab_GW := ab_gw 1269 (by decide +kernel) rfl
theorem w_1271 : (Jvm.Cond.instanceMethod ({ cls := "DominoKingModel", name := "leastAt", desc := "(II)I" } : Jvm.MethodName)) ∈ ab_GW := ab_gw 1271 (by decide +kernel) rfl
theorem w_1272 : (Jvm.Cond.code ({ cls := "DominoKingModel", name := "leastAt", desc := "(II)I" } : Jvm.MethodName) prog_11_method_40_code (5 : Nat) (Option.some Jvm.ClassFile.FieldType.int)) ∈ ab_GW := ab_gw 1272 (by decide +kernel) rfl
theorem w_1273 : (Jvm.Cond.methodLink "DominoKingModel" (180 : Nat) ({ cls := "DominoKingModel", name := "bits", desc := "(I)I" } : Jvm.MethodName)) ∈ ab_GW := ab_gw 1273 (by decide +kernel) rfl
theorem w_1274 : (Jvm.Cond.static ({ cls := "DominoKingModel", name := "bits", desc := "(I)I" } : Jvm.MethodName)) ∈ ab_GW := ab_gw 1274 (by decide +kernel) rfl
theorem w_1275 : (Jvm.Cond.code ({ cls := "DominoKingModel", name := "bits", desc := "(I)I" } : Jvm.MethodName) prog_11_method_41_code (3 : Nat) (Option.some Jvm.ClassFile.FieldType.int)) ∈ ab_GW := ab_gw 1275 (by decide +kernel) rfl
theorem w_1276 : (Jvm.Cond.methodLink "DominoKingLaw" (79 : Nat) ({ cls := "DominoKingModel", name := "bestFor", desc := "(II)I" } : Jvm.MethodName)) ∈ ab_GW := ab_gw 1276 (by decide +kernel) rfl
theorem w_1277 : (Jvm.Cond.instanceMethod ({ cls := "DominoKingModel", name := "bestFor", desc := "(II)I" } : Jvm.MethodName)) ∈ ab_GW := ab_gw 1277 (by decide +kernel) rfl
theorem w_1278 : (Jvm.Cond.selects "DominoKingModel" ({ cls := "DominoKingModel", name := "bestFor", desc := "(II)I" } : Jvm.MethodName) ({ cls := "DominoKingModel", name := "bestFor", desc := "(II)I" } : Jvm.MethodName)) ∈ ab_GW := ab_gw 1278 (by decide +kernel) rfl
theorem w_1279 : (Jvm.Cond.code ({ cls := "DominoKingModel", name := "bestFor", desc := "(II)I" } : Jvm.MethodName) prog_11_method_44_code (7 : Nat) (Option.some Jvm.ClassFile.FieldType.int)) ∈ ab_GW := ab_gw 1279 (by decide +kernel) rfl
theorem w_1280 : (Jvm.Cond.methodLink "DominoKingLaw" (84 : Nat) ({ cls := "DominoKingModel", name := "swap", desc := "()I" } : Jvm.MethodName)) ∈ ab_GW := ab_gw 1280 (by decide +kernel) rfl
theorem w_1281 : (Jvm.Cond.instanceMethod ({ cls := "DominoKingModel", name := "swap", desc := "()I" } : Jvm.MethodName)) ∈ ab_GW := ab_gw 1281 (by decide +kernel) rfl
theorem w_1282 : (Jvm.Cond.selects "DominoKingModel" ({ cls := "DominoKingModel", name := "swap", desc := "()I" } : Jvm.MethodName) ({ cls := "DominoKingModel", name := "swap", desc := "()I" } : Jvm.MethodName)) ∈ ab_GW := ab_gw 1282 (by decide +kernel) rfl
theorem w_1283 : (Jvm.Cond.code ({ cls := "DominoKingModel", name := "swap", desc := "()I" } : Jvm.MethodName) prog_11_method_46_code (6 : Nat) (Option.some Jvm.ClassFile.FieldType.int)) ∈ ab_GW := ab_gw 1283 (by decide +kernel) rfl
theorem w_1284 : (Jvm.Cond.methodLink "DominoKingModel" (183 : Nat) ({ cls := "DominoKingModel", name := "change", desc := "(II)V" } : Jvm.MethodName)) ∈ ab_GW := ab_gw 1284 (by decide +kernel) rfl
theorem w_1286 : (Jvm.Cond.instanceMethod ({ cls := "DominoKingModel", name := "change", desc := "(II)V" } : Jvm.MethodName)) ∈ ab_GW := ab_gw 1286 (by decide +kernel) rfl
theorem w_1287 : (Jvm.Cond.code ({ cls := "DominoKingModel", name := "change", desc := "(II)V" } : Jvm.MethodName) prog_11_method_45_code (4 : Nat) (Option.none : Option Jvm.ClassFile.FieldType)) ∈ ab_GW := ab_gw 1287 (by decide +kernel) rfl
theorem w_1288 : (Jvm.Cond.methodLink "DominoKingLaw" (88 : Nat) ({ cls := "DominoKingModel", name := "knocked", desc := "(I)I" } : Jvm.MethodName)) ∈ ab_GW := ab_gw 1288 (by decide +kernel) rfl
theorem w_1289 : (Jvm.Cond.instanceMethod ({ cls := "DominoKingModel", name := "knocked", desc := "(I)I" } : Jvm.MethodName)) ∈ ab_GW := ab_gw 1289 (by decide +kernel) rfl
theorem w_1290 : (Jvm.Cond.selects "DominoKingModel" ({ cls := "DominoKingModel", name := "knocked", desc := "(I)I" } : Jvm.MethodName) ({ cls := "DominoKingModel", name := "knocked", desc := "(I)I" } : Jvm.MethodName)) ∈ ab_GW := ab_gw 1290 (by decide +kernel) rfl
theorem w_1291 : (Jvm.Cond.code ({ cls := "DominoKingModel", name := "knocked", desc := "(I)I" } : Jvm.MethodName) prog_11_method_48_code (2 : Nat) (Option.some Jvm.ClassFile.FieldType.int)) ∈ ab_GW := ab_gw 1291 (by decide +kernel) rfl
theorem w_1292 : (Jvm.Cond.methodLink "DominoKingModel" (187 : Nat) ({ cls := "DominoKingModel", name := "falls", desc := "(I)I" } : Jvm.MethodName)) ∈ ab_GW := ab_gw 1292 (by decide +kernel) rfl
theorem w_1294 : (Jvm.Cond.instanceMethod ({ cls := "DominoKingModel", name := "falls", desc := "(I)I" } : Jvm.MethodName)) ∈ ab_GW := ab_gw 1294 (by decide +kernel) rfl
theorem w_1295 : (Jvm.Cond.code ({ cls := "DominoKingModel", name := "falls", desc := "(I)I" } : Jvm.MethodName) prog_11_method_47_code (6 : Nat) (Option.some Jvm.ClassFile.FieldType.int)) ∈ ab_GW := ab_gw 1295 (by decide +kernel) rfl
theorem w_1296 : (Jvm.Cond.methodLink "DominoKingLaw" (92 : Nat) ({ cls := "DominoKingModel", name := "push", desc := "(I)I" } : Jvm.MethodName)) ∈ ab_GW := ab_gw 1296 (by decide +kernel) rfl
theorem w_1297 : (Jvm.Cond.instanceMethod ({ cls := "DominoKingModel", name := "push", desc := "(I)I" } : Jvm.MethodName)) ∈ ab_GW := ab_gw 1297 (by decide +kernel) rfl
theorem w_1298 : (Jvm.Cond.selects "DominoKingModel" ({ cls := "DominoKingModel", name := "push", desc := "(I)I" } : Jvm.MethodName) ({ cls := "DominoKingModel", name := "push", desc := "(I)I" } : Jvm.MethodName)) ∈ ab_GW := ab_gw 1298 (by decide +kernel) rfl
theorem w_1299 : (Jvm.Cond.code ({ cls := "DominoKingModel", name := "push", desc := "(I)I" } : Jvm.MethodName) prog_11_method_49_code (6 : Nat) (Option.some Jvm.ClassFile.FieldType.int)) ∈ ab_GW := ab_gw 1299 (by decide +kernel) rfl
theorem w_1300 : (Jvm.Cond.methodLink "DominoKingLaw" (96 : Nat) ({ cls := "DominoKingModel", name := "behind", desc := "(II)I" } : Jvm.MethodName)) ∈ ab_GW := ab_gw 1300 (by decide +kernel) rfl
theorem w_1301 : (Jvm.Cond.instanceMethod ({ cls := "DominoKingModel", name := "behind", desc := "(II)I" } : Jvm.MethodName)) ∈ ab_GW := ab_gw 1301 (by decide +kernel) rfl
theorem w_1302 : (Jvm.Cond.selects "DominoKingModel" ({ cls := "DominoKingModel", name := "behind", desc := "(II)I" } : Jvm.MethodName) ({ cls := "DominoKingModel", name := "behind", desc := "(II)I" } : Jvm.MethodName)) ∈ ab_GW := ab_gw 1302 (by decide +kernel) rfl
theorem w_1303 : (Jvm.Cond.code ({ cls := "DominoKingModel", name := "behind", desc := "(II)I" } : Jvm.MethodName) prog_11_method_52_code (4 : Nat) (Option.some Jvm.ClassFile.FieldType.int)) ∈ ab_GW := ab_gw 1303 (by decide +kernel) rfl
theorem w_1304 : (Jvm.Cond.methodLink "DominoKingModel" (190 : Nat) ({ cls := "DominoKingModel", name := "thinks", desc := "()V" } : Jvm.MethodName)) ∈ ab_GW := ab_gw 1304 (by decide +kernel) rfl
theorem w_1306 : (Jvm.Cond.instanceMethod ({ cls := "DominoKingModel", name := "thinks", desc := "()V" } : Jvm.MethodName)) ∈ ab_GW := ab_gw 1306 (by decide +kernel) rfl
theorem w_1307 : (Jvm.Cond.code ({ cls := "DominoKingModel", name := "thinks", desc := "()V" } : Jvm.MethodName) prog_11_method_50_code (2 : Nat) (Option.none : Option Jvm.ClassFile.FieldType)) ∈ ab_GW := ab_gw 1307 (by decide +kernel) rfl
theorem w_1308 : (Jvm.Cond.methodLink "DominoKingModel" (193 : Nat) ({ cls := "DominoKingModel", name := "king", desc := "(I)I" } : Jvm.MethodName)) ∈ ab_GW := ab_gw 1308 (by decide +kernel) rfl
theorem w_1309 : (Jvm.Cond.methodLink "DominoKingModel" (196 : Nat) ({ cls := "DominoKingModel", name := "putsBack", desc := "()V" } : Jvm.MethodName)) ∈ ab_GW := ab_gw 1309 (by decide +kernel) rfl
theorem w_1311 : (Jvm.Cond.instanceMethod ({ cls := "DominoKingModel", name := "putsBack", desc := "()V" } : Jvm.MethodName)) ∈ ab_GW := ab_gw 1311 (by decide +kernel) rfl
theorem w_1312 : (Jvm.Cond.code ({ cls := "DominoKingModel", name := "putsBack", desc := "()V" } : Jvm.MethodName) prog_11_method_51_code (2 : Nat) (Option.none : Option Jvm.ClassFile.FieldType)) ∈ ab_GW := ab_gw 1312 (by decide +kernel) rfl
theorem w_1313 : (Jvm.Cond.methodLink "DominoKingLaw" (100 : Nat) ({ cls := "DominoKingModel", name := "laid", desc := "()I" } : Jvm.MethodName)) ∈ ab_GW := ab_gw 1313 (by decide +kernel) rfl
theorem w_1314 : (Jvm.Cond.instanceMethod ({ cls := "DominoKingModel", name := "laid", desc := "()I" } : Jvm.MethodName)) ∈ ab_GW := ab_gw 1314 (by decide +kernel) rfl
theorem w_1315 : (Jvm.Cond.selects "DominoKingModel" ({ cls := "DominoKingModel", name := "laid", desc := "()I" } : Jvm.MethodName) ({ cls := "DominoKingModel", name := "laid", desc := "()I" } : Jvm.MethodName)) ∈ ab_GW := ab_gw 1315 (by decide +kernel) rfl
theorem w_1316 : (Jvm.Cond.code ({ cls := "DominoKingModel", name := "laid", desc := "()I" } : Jvm.MethodName) prog_11_method_54_code (2 : Nat) (Option.some Jvm.ClassFile.FieldType.int)) ∈ ab_GW := ab_gw 1316 (by decide +kernel) rfl
theorem w_1317 : (Jvm.Cond.methodLink "DominoKingModel" (199 : Nat) ({ cls := "DominoKingModel", name := "isLaid", desc := "()Z" } : Jvm.MethodName)) ∈ ab_GW := ab_gw 1317 (by decide +kernel) rfl
theorem w_1319 : (Jvm.Cond.instanceMethod ({ cls := "DominoKingModel", name := "isLaid", desc := "()Z" } : Jvm.MethodName)) ∈ ab_GW := ab_gw 1319 (by decide +kernel) rfl
theorem w_1320 : (Jvm.Cond.code ({ cls := "DominoKingModel", name := "isLaid", desc := "()Z" } : Jvm.MethodName) prog_11_method_53_code (2 : Nat) (Option.some Jvm.ClassFile.FieldType.boolean)) ∈ ab_GW := ab_gw 1320 (by decide +kernel) rfl
theorem w_1321 : (Jvm.Cond.methodLink "DominoKingLaw" (104 : Nat) ({ cls := "DominoKingModel", name := "lost", desc := "(II)I" } : Jvm.MethodName)) ∈ ab_GW := ab_gw 1321 (by decide +kernel) rfl
theorem w_1322 : (Jvm.Cond.instanceMethod ({ cls := "DominoKingModel", name := "lost", desc := "(II)I" } : Jvm.MethodName)) ∈ ab_GW := ab_gw 1322 (by decide +kernel) rfl
theorem w_1323 : (Jvm.Cond.selects "DominoKingModel" ({ cls := "DominoKingModel", name := "lost", desc := "(II)I" } : Jvm.MethodName) ({ cls := "DominoKingModel", name := "lost", desc := "(II)I" } : Jvm.MethodName)) ∈ ab_GW := ab_gw 1323 (by decide +kernel) rfl
theorem w_1324 : (Jvm.Cond.code ({ cls := "DominoKingModel", name := "lost", desc := "(II)I" } : Jvm.MethodName) prog_11_method_55_code (7 : Nat) (Option.some Jvm.ClassFile.FieldType.int)) ∈ ab_GW := ab_gw 1324 (by decide +kernel) rfl
theorem w_1325 : (Jvm.Cond.methodLink "DominoKingLaw" (108 : Nat) ({ cls := "DominoKingModel", name := "seen", desc := "(II)I" } : Jvm.MethodName)) ∈ ab_GW := ab_gw 1325 (by decide +kernel) rfl
theorem w_1326 : (Jvm.Cond.instanceMethod ({ cls := "DominoKingModel", name := "seen", desc := "(II)I" } : Jvm.MethodName)) ∈ ab_GW := ab_gw 1326 (by decide +kernel) rfl
theorem w_1327 : (Jvm.Cond.selects "DominoKingModel" ({ cls := "DominoKingModel", name := "seen", desc := "(II)I" } : Jvm.MethodName) ({ cls := "DominoKingModel", name := "seen", desc := "(II)I" } : Jvm.MethodName)) ∈ ab_GW := ab_gw 1327 (by decide +kernel) rfl
theorem w_1328 : (Jvm.Cond.code ({ cls := "DominoKingModel", name := "seen", desc := "(II)I" } : Jvm.MethodName) prog_11_method_58_code (9 : Nat) (Option.some Jvm.ClassFile.FieldType.int)) ∈ ab_GW := ab_gw 1328 (by decide +kernel) rfl
theorem w_1329 : (Jvm.Cond.methodLink "DominoKingModel" (206 : Nat) ({ cls := "DominoKingModel", name := "isSheet", desc := "(I)Z" } : Jvm.MethodName)) ∈ ab_GW := ab_gw 1329 (by decide +kernel) rfl
theorem w_1330 : (Jvm.Cond.static ({ cls := "DominoKingModel", name := "isSheet", desc := "(I)Z" } : Jvm.MethodName)) ∈ ab_GW := ab_gw 1330 (by decide +kernel) rfl
theorem w_1331 : (Jvm.Cond.code ({ cls := "DominoKingModel", name := "isSheet", desc := "(I)Z" } : Jvm.MethodName) prog_11_method_80_code (1 : Nat) (Option.some Jvm.ClassFile.FieldType.boolean)) ∈ ab_GW := ab_gw 1331 (by decide +kernel) rfl
theorem w_1332 : (Jvm.Cond.constant "DominoKingModel" (209 : Nat) (-1000000011 : Int32)) ∈ ab_GW := ab_gw 1332 (by decide +kernel) rfl
theorem w_1333 : (Jvm.Cond.methodLink "DominoKingModel" (210 : Nat) ({ cls := "DominoKingModel", name := "offBy", desc := "(II)J" } : Jvm.MethodName)) ∈ ab_GW := ab_gw 1333 (by decide +kernel) rfl
theorem w_1335 : (Jvm.Cond.instanceMethod ({ cls := "DominoKingModel", name := "offBy", desc := "(II)J" } : Jvm.MethodName)) ∈ ab_GW := ab_gw 1335 (by decide +kernel) rfl
theorem w_1336 : (Jvm.Cond.code ({ cls := "DominoKingModel", name := "offBy", desc := "(II)J" } : Jvm.MethodName) prog_11_method_57_code (9 : Nat) (Option.some Jvm.ClassFile.FieldType.long)) ∈ ab_GW := ab_gw 1336 (by decide +kernel) rfl
theorem w_1337 : (Jvm.Cond.methodLink "DominoKingModel" (203 : Nat) ({ cls := "DominoKingModel", name := "darkAt", desc := "(I)I" } : Jvm.MethodName)) ∈ ab_GW := ab_gw 1337 (by decide +kernel) rfl
theorem w_1339 : (Jvm.Cond.instanceMethod ({ cls := "DominoKingModel", name := "darkAt", desc := "(I)I" } : Jvm.MethodName)) ∈ ab_GW := ab_gw 1339 (by decide +kernel) rfl
theorem w_1340 : (Jvm.Cond.code ({ cls := "DominoKingModel", name := "darkAt", desc := "(I)I" } : Jvm.MethodName) prog_11_method_56_code (4 : Nat) (Option.some Jvm.ClassFile.FieldType.int)) ∈ ab_GW := ab_gw 1340 (by decide +kernel) rfl
theorem w_1341 : (Jvm.Cond.methodLink "DominoKingLaw" (112 : Nat) ({ cls := "DominoKingModel", name := "fee", desc := "()I" } : Jvm.MethodName)) ∈ ab_GW := ab_gw 1341 (by decide +kernel) rfl
theorem w_1342 : (Jvm.Cond.instanceMethod ({ cls := "DominoKingModel", name := "fee", desc := "()I" } : Jvm.MethodName)) ∈ ab_GW := ab_gw 1342 (by decide +kernel) rfl
theorem w_1343 : (Jvm.Cond.selects "DominoKingModel" ({ cls := "DominoKingModel", name := "fee", desc := "()I" } : Jvm.MethodName) ({ cls := "DominoKingModel", name := "fee", desc := "()I" } : Jvm.MethodName)) ∈ ab_GW := ab_gw 1343 (by decide +kernel) rfl
theorem w_1344 : (Jvm.Cond.code ({ cls := "DominoKingModel", name := "fee", desc := "()I" } : Jvm.MethodName) prog_11_method_59_code (3 : Nat) (Option.some Jvm.ClassFile.FieldType.int)) ∈ ab_GW := ab_gw 1344 (by decide +kernel) rfl
theorem w_1345 : (Jvm.Cond.methodLink "DominoKingLaw" (116 : Nat) ({ cls := "DominoKingModel", name := "fine", desc := "(I)I" } : Jvm.MethodName)) ∈ ab_GW := ab_gw 1345 (by decide +kernel) rfl
theorem w_1346 : (Jvm.Cond.instanceMethod ({ cls := "DominoKingModel", name := "fine", desc := "(I)I" } : Jvm.MethodName)) ∈ ab_GW := ab_gw 1346 (by decide +kernel) rfl
theorem w_1347 : (Jvm.Cond.selects "DominoKingModel" ({ cls := "DominoKingModel", name := "fine", desc := "(I)I" } : Jvm.MethodName) ({ cls := "DominoKingModel", name := "fine", desc := "(I)I" } : Jvm.MethodName)) ∈ ab_GW := ab_gw 1347 (by decide +kernel) rfl
theorem w_1348 : (Jvm.Cond.code ({ cls := "DominoKingModel", name := "fine", desc := "(I)I" } : Jvm.MethodName) prog_11_method_60_code (3 : Nat) (Option.some Jvm.ClassFile.FieldType.int)) ∈ ab_GW := ab_gw 1348 (by decide +kernel) rfl
theorem w_1349 : (Jvm.Cond.methodLink "DominoKingLaw" (120 : Nat) ({ cls := "DominoKingModel", name := "feed", desc := "(III)I" } : Jvm.MethodName)) ∈ ab_GW := ab_gw 1349 (by decide +kernel) rfl
theorem w_1350 : (Jvm.Cond.instanceMethod ({ cls := "DominoKingModel", name := "feed", desc := "(III)I" } : Jvm.MethodName)) ∈ ab_GW := ab_gw 1350 (by decide +kernel) rfl
theorem w_1351 : (Jvm.Cond.selects "DominoKingModel" ({ cls := "DominoKingModel", name := "feed", desc := "(III)I" } : Jvm.MethodName) ({ cls := "DominoKingModel", name := "feed", desc := "(III)I" } : Jvm.MethodName)) ∈ ab_GW := ab_gw 1351 (by decide +kernel) rfl
theorem w_1352 : (Jvm.Cond.code ({ cls := "DominoKingModel", name := "feed", desc := "(III)I" } : Jvm.MethodName) prog_11_method_61_code (6 : Nat) (Option.some Jvm.ClassFile.FieldType.int)) ∈ ab_GW := ab_gw 1352 (by decide +kernel) rfl
theorem w_1353 : (Jvm.Cond.methodLink "DominoKingLaw" (124 : Nat) ({ cls := "DominoKingModel", name := "trim", desc := "(I)I" } : Jvm.MethodName)) ∈ ab_GW := ab_gw 1353 (by decide +kernel) rfl
theorem w_1354 : (Jvm.Cond.instanceMethod ({ cls := "DominoKingModel", name := "trim", desc := "(I)I" } : Jvm.MethodName)) ∈ ab_GW := ab_gw 1354 (by decide +kernel) rfl
theorem w_1355 : (Jvm.Cond.selects "DominoKingModel" ({ cls := "DominoKingModel", name := "trim", desc := "(I)I" } : Jvm.MethodName) ({ cls := "DominoKingModel", name := "trim", desc := "(I)I" } : Jvm.MethodName)) ∈ ab_GW := ab_gw 1355 (by decide +kernel) rfl
theorem w_1356 : (Jvm.Cond.code ({ cls := "DominoKingModel", name := "trim", desc := "(I)I" } : Jvm.MethodName) prog_11_method_62_code (2 : Nat) (Option.some Jvm.ClassFile.FieldType.int)) ∈ ab_GW := ab_gw 1356 (by decide +kernel) rfl
theorem w_1357 : (Jvm.Cond.methodLink "DominoKingLaw" (128 : Nat) ({ cls := "DominoKingModel", name := "text", desc := "()I" } : Jvm.MethodName)) ∈ ab_GW := ab_gw 1357 (by decide +kernel) rfl
theorem w_1358 : (Jvm.Cond.instanceMethod ({ cls := "DominoKingModel", name := "text", desc := "()I" } : Jvm.MethodName)) ∈ ab_GW := ab_gw 1358 (by decide +kernel) rfl
theorem w_1359 : (Jvm.Cond.selects "DominoKingModel" ({ cls := "DominoKingModel", name := "text", desc := "()I" } : Jvm.MethodName) ({ cls := "DominoKingModel", name := "text", desc := "()I" } : Jvm.MethodName)) ∈ ab_GW := ab_gw 1359 (by decide +kernel) rfl
theorem w_1360 : (Jvm.Cond.code ({ cls := "DominoKingModel", name := "text", desc := "()I" } : Jvm.MethodName) prog_11_method_74_code (4 : Nat) (Option.some Jvm.ClassFile.FieldType.int)) ∈ ab_GW := ab_gw 1360 (by decide +kernel) rfl
theorem w_1361 : (Jvm.Cond.methodLink "DominoKingModel" (241 : Nat) ({ cls := "DominoKingModel", name := "go", desc := "()V" } : Jvm.MethodName)) ∈ ab_GW := ab_gw 1361 (by decide +kernel) rfl
theorem w_1363 : (Jvm.Cond.instanceMethod ({ cls := "DominoKingModel", name := "go", desc := "()V" } : Jvm.MethodName)) ∈ ab_GW := ab_gw 1363 (by decide +kernel) rfl
theorem w_1364 : (Jvm.Cond.code ({ cls := "DominoKingModel", name := "go", desc := "()V" } : Jvm.MethodName) prog_11_method_65_code (2 : Nat) (Option.none : Option Jvm.ClassFile.FieldType)) ∈ ab_GW := ab_gw 1364 (by decide +kernel) rfl
theorem w_1365 : (Jvm.Cond.methodLink "DominoKingModel" (229 : Nat) ({ cls := "DominoKingModel", name := "isLetter", desc := "(I)Z" } : Jvm.MethodName)) ∈ ab_GW := ab_gw 1365 (by decide +kernel) rfl
theorem w_1367 : (Jvm.Cond.instanceMethod ({ cls := "DominoKingModel", name := "isLetter", desc := "(I)Z" } : Jvm.MethodName)) ∈ ab_GW := ab_gw 1367 (by decide +kernel) rfl
theorem w_1368 : (Jvm.Cond.code ({ cls := "DominoKingModel", name := "isLetter", desc := "(I)Z" } : Jvm.MethodName) prog_11_method_63_code (2 : Nat) (Option.some Jvm.ClassFile.FieldType.boolean)) ∈ ab_GW := ab_gw 1368 (by decide +kernel) rfl
theorem w_1369 : (Jvm.Cond.methodLink "DominoKingModel" (235 : Nat) ({ cls := "DominoKingModel", name := "isFigure", desc := "(I)Z" } : Jvm.MethodName)) ∈ ab_GW := ab_gw 1369 (by decide +kernel) rfl
theorem w_1371 : (Jvm.Cond.instanceMethod ({ cls := "DominoKingModel", name := "isFigure", desc := "(I)Z" } : Jvm.MethodName)) ∈ ab_GW := ab_gw 1371 (by decide +kernel) rfl
theorem w_1372 : (Jvm.Cond.code ({ cls := "DominoKingModel", name := "isFigure", desc := "(I)Z" } : Jvm.MethodName) prog_11_method_64_code (2 : Nat) (Option.some Jvm.ClassFile.FieldType.boolean)) ∈ ab_GW := ab_gw 1372 (by decide +kernel) rfl
theorem w_1373 : (Jvm.Cond.methodLink "DominoKingModel" (271 : Nat) ({ cls := "DominoKingModel", name := "takesKey", desc := "()Z" } : Jvm.MethodName)) ∈ ab_GW := ab_gw 1373 (by decide +kernel) rfl
theorem w_1375 : (Jvm.Cond.instanceMethod ({ cls := "DominoKingModel", name := "takesKey", desc := "()Z" } : Jvm.MethodName)) ∈ ab_GW := ab_gw 1375 (by decide +kernel) rfl
theorem w_1376 : (Jvm.Cond.code ({ cls := "DominoKingModel", name := "takesKey", desc := "()Z" } : Jvm.MethodName) prog_11_method_66_code (5 : Nat) (Option.some Jvm.ClassFile.FieldType.boolean)) ∈ ab_GW := ab_gw 1376 (by decide +kernel) rfl
theorem w_1377 : (Jvm.Cond.methodLink "DominoKingModel" (274 : Nat) ({ cls := "DominoKingModel", name := "takesE", desc := "()Z" } : Jvm.MethodName)) ∈ ab_GW := ab_gw 1377 (by decide +kernel) rfl
theorem w_1379 : (Jvm.Cond.instanceMethod ({ cls := "DominoKingModel", name := "takesE", desc := "()Z" } : Jvm.MethodName)) ∈ ab_GW := ab_gw 1379 (by decide +kernel) rfl
theorem w_1380 : (Jvm.Cond.code ({ cls := "DominoKingModel", name := "takesE", desc := "()Z" } : Jvm.MethodName) prog_11_method_72_code (5 : Nat) (Option.some Jvm.ClassFile.FieldType.boolean)) ∈ ab_GW := ab_gw 1380 (by decide +kernel) rfl
theorem w_1381 : (Jvm.Cond.methodLink "DominoKingModel" (262 : Nat) ({ cls := "DominoKingModel", name := "takesPart", desc := "()Z" } : Jvm.MethodName)) ∈ ab_GW := ab_gw 1381 (by decide +kernel) rfl
theorem w_1383 : (Jvm.Cond.instanceMethod ({ cls := "DominoKingModel", name := "takesPart", desc := "()Z" } : Jvm.MethodName)) ∈ ab_GW := ab_gw 1383 (by decide +kernel) rfl
theorem w_1384 : (Jvm.Cond.code ({ cls := "DominoKingModel", name := "takesPart", desc := "()Z" } : Jvm.MethodName) prog_11_method_71_code (2 : Nat) (Option.some Jvm.ClassFile.FieldType.boolean)) ∈ ab_GW := ab_gw 1384 (by decide +kernel) rfl
theorem w_1385 : (Jvm.Cond.methodLink "DominoKingModel" (253 : Nat) ({ cls := "DominoKingModel", name := "nameOf", desc := "(I)I" } : Jvm.MethodName)) ∈ ab_GW := ab_gw 1385 (by decide +kernel) rfl
theorem w_1387 : (Jvm.Cond.instanceMethod ({ cls := "DominoKingModel", name := "nameOf", desc := "(I)I" } : Jvm.MethodName)) ∈ ab_GW := ab_gw 1387 (by decide +kernel) rfl
theorem w_1388 : (Jvm.Cond.code ({ cls := "DominoKingModel", name := "nameOf", desc := "(I)I" } : Jvm.MethodName) prog_11_method_67_code (2 : Nat) (Option.some Jvm.ClassFile.FieldType.int)) ∈ ab_GW := ab_gw 1388 (by decide +kernel) rfl
theorem w_1389 : (Jvm.Cond.methodLink "DominoKingModel" (259 : Nat) ({ cls := "DominoKingModel", name := "settle", desc := "(I)V" } : Jvm.MethodName)) ∈ ab_GW := ab_gw 1389 (by decide +kernel) rfl
theorem w_1391 : (Jvm.Cond.instanceMethod ({ cls := "DominoKingModel", name := "settle", desc := "(I)V" } : Jvm.MethodName)) ∈ ab_GW := ab_gw 1391 (by decide +kernel) rfl
theorem w_1392 : (Jvm.Cond.code ({ cls := "DominoKingModel", name := "settle", desc := "(I)V" } : Jvm.MethodName) prog_11_method_69_code (2 : Nat) (Option.none : Option Jvm.ClassFile.FieldType)) ∈ ab_GW := ab_gw 1392 (by decide +kernel) rfl
theorem w_1393 : (Jvm.Cond.methodLink "DominoKingModel" (247 : Nat) ({ cls := "DominoKingModel", name := "rank", desc := "(I)I" } : Jvm.MethodName)) ∈ ab_GW := ab_gw 1393 (by decide +kernel) rfl
theorem w_1394 : (Jvm.Cond.static ({ cls := "DominoKingModel", name := "rank", desc := "(I)I" } : Jvm.MethodName)) ∈ ab_GW := ab_gw 1394 (by decide +kernel) rfl
theorem w_1395 : (Jvm.Cond.code ({ cls := "DominoKingModel", name := "rank", desc := "(I)I" } : Jvm.MethodName) prog_11_method_68_code (1 : Nat) (Option.some Jvm.ClassFile.FieldType.int)) ∈ ab_GW := ab_gw 1395 (by decide +kernel) rfl
theorem w_1396 : (Jvm.Cond.methodLink "DominoKingModel" (265 : Nat) ({ cls := "DominoKingModel", name := "notsOpen", desc := "()I" } : Jvm.MethodName)) ∈ ab_GW := ab_gw 1396 (by decide +kernel) rfl
theorem w_1398 : (Jvm.Cond.instanceMethod ({ cls := "DominoKingModel", name := "notsOpen", desc := "()I" } : Jvm.MethodName)) ∈ ab_GW := ab_gw 1398 (by decide +kernel) rfl
theorem w_1399 : (Jvm.Cond.code ({ cls := "DominoKingModel", name := "notsOpen", desc := "()I" } : Jvm.MethodName) prog_11_method_73_code (3 : Nat) (Option.some Jvm.ClassFile.FieldType.int)) ∈ ab_GW := ab_gw 1399 (by decide +kernel) rfl
theorem w_1400 : (Jvm.Cond.methodLink "DominoKingModel" (268 : Nat) ({ cls := "DominoKingModel", name := "signHere", desc := "()I" } : Jvm.MethodName)) ∈ ab_GW := ab_gw 1400 (by decide +kernel) rfl
theorem w_1402 : (Jvm.Cond.instanceMethod ({ cls := "DominoKingModel", name := "signHere", desc := "()I" } : Jvm.MethodName)) ∈ ab_GW := ab_gw 1402 (by decide +kernel) rfl
theorem w_1403 : (Jvm.Cond.code ({ cls := "DominoKingModel", name := "signHere", desc := "()I" } : Jvm.MethodName) prog_11_method_70_code (1 : Nat) (Option.some Jvm.ClassFile.FieldType.int)) ∈ ab_GW := ab_gw 1403 (by decide +kernel) rfl
theorem w_1404 : (Jvm.Cond.methodLink "DominoKingLaw" (132 : Nat) ({ cls := "DominoKingModel", name := "textTold", desc := "(II)I" } : Jvm.MethodName)) ∈ ab_GW := ab_gw 1404 (by decide +kernel) rfl
theorem w_1405 : (Jvm.Cond.instanceMethod ({ cls := "DominoKingModel", name := "textTold", desc := "(II)I" } : Jvm.MethodName)) ∈ ab_GW := ab_gw 1405 (by decide +kernel) rfl
theorem w_1406 : (Jvm.Cond.selects "DominoKingModel" ({ cls := "DominoKingModel", name := "textTold", desc := "(II)I" } : Jvm.MethodName) ({ cls := "DominoKingModel", name := "textTold", desc := "(II)I" } : Jvm.MethodName)) ∈ ab_GW := ab_gw 1406 (by decide +kernel) rfl
theorem w_1407 : (Jvm.Cond.code ({ cls := "DominoKingModel", name := "textTold", desc := "(II)I" } : Jvm.MethodName) prog_11_method_75_code (3 : Nat) (Option.some Jvm.ClassFile.FieldType.int)) ∈ ab_GW := ab_gw 1407 (by decide +kernel) rfl
theorem w_1408 : (Jvm.Cond.methodLink "DominoKingLaw" (136 : Nat) ({ cls := "DominoKingModel", name := "why", desc := "(I)I" } : Jvm.MethodName)) ∈ ab_GW := ab_gw 1408 (by decide +kernel) rfl
theorem w_1409 : (Jvm.Cond.instanceMethod ({ cls := "DominoKingModel", name := "why", desc := "(I)I" } : Jvm.MethodName)) ∈ ab_GW := ab_gw 1409 (by decide +kernel) rfl
theorem w_1410 : (Jvm.Cond.selects "DominoKingModel" ({ cls := "DominoKingModel", name := "why", desc := "(I)I" } : Jvm.MethodName) ({ cls := "DominoKingModel", name := "why", desc := "(I)I" } : Jvm.MethodName)) ∈ ab_GW := ab_gw 1410 (by decide +kernel) rfl
theorem w_1411 : (Jvm.Cond.code ({ cls := "DominoKingModel", name := "why", desc := "(I)I" } : Jvm.MethodName) prog_11_method_77_code (3 : Nat) (Option.some Jvm.ClassFile.FieldType.int)) ∈ ab_GW := ab_gw 1411 (by decide +kernel) rfl
theorem w_1412 : (Jvm.Cond.methodLink "DominoKingLaw" (140 : Nat) ({ cls := "DominoKingModel", name := "sheet", desc := "(III)I" } : Jvm.MethodName)) ∈ ab_GW := ab_gw 1412 (by decide +kernel) rfl
theorem w_1413 : (Jvm.Cond.instanceMethod ({ cls := "DominoKingModel", name := "sheet", desc := "(III)I" } : Jvm.MethodName)) ∈ ab_GW := ab_gw 1413 (by decide +kernel) rfl
theorem w_1414 : (Jvm.Cond.selects "DominoKingModel" ({ cls := "DominoKingModel", name := "sheet", desc := "(III)I" } : Jvm.MethodName) ({ cls := "DominoKingModel", name := "sheet", desc := "(III)I" } : Jvm.MethodName)) ∈ ab_GW := ab_gw 1414 (by decide +kernel) rfl
theorem w_1415 : (Jvm.Cond.code ({ cls := "DominoKingModel", name := "sheet", desc := "(III)I" } : Jvm.MethodName) prog_11_method_82_code (5 : Nat) (Option.some Jvm.ClassFile.FieldType.int)) ∈ ab_GW := ab_gw 1415 (by decide +kernel) rfl
theorem w_1416 : (Jvm.Cond.constant "DominoKingModel" (280 : Nat) (-1000000014 : Int32)) ∈ ab_GW := ab_gw 1416 (by decide +kernel) rfl
theorem w_1417 : (Jvm.Cond.methodLink "DominoKingLaw" (144 : Nat) ({ cls := "DominoKingModel", name := "mark", desc := "(III)I" } : Jvm.MethodName)) ∈ ab_GW := ab_gw 1417 (by decide +kernel) rfl
theorem w_1418 : (Jvm.Cond.instanceMethod ({ cls := "DominoKingModel", name := "mark", desc := "(III)I" } : Jvm.MethodName)) ∈ ab_GW := ab_gw 1418 (by decide +kernel) rfl
theorem w_1419 : (Jvm.Cond.selects "DominoKingModel" ({ cls := "DominoKingModel", name := "mark", desc := "(III)I" } : Jvm.MethodName) ({ cls := "DominoKingModel", name := "mark", desc := "(III)I" } : Jvm.MethodName)) ∈ ab_GW := ab_gw 1419 (by decide +kernel) rfl
theorem w_1420 : (Jvm.Cond.code ({ cls := "DominoKingModel", name := "mark", desc := "(III)I" } : Jvm.MethodName) prog_11_method_83_code (4 : Nat) (Option.some Jvm.ClassFile.FieldType.int)) ∈ ab_GW := ab_gw 1420 (by decide +kernel) rfl
theorem w_1421 : (Jvm.Cond.constant "DominoKingModel" (281 : Nat) (-1000000013 : Int32)) ∈ ab_GW := ab_gw 1421 (by decide +kernel) rfl
theorem w_1422 : (Jvm.Cond.constant "DominoKingModel" (282 : Nat) (-99999 : Int32)) ∈ ab_GW := ab_gw 1422 (by decide +kernel) rfl
theorem w_1423 : (Jvm.Cond.constant "DominoKingModel" (283 : Nat) (99999 : Int32)) ∈ ab_GW := ab_gw 1423 (by decide +kernel) rfl
theorem w_1424 : (Jvm.Cond.methodLink "DominoKingLaw" (148 : Nat) ({ cls := "DominoKingModel", name := "pour", desc := "(I)I" } : Jvm.MethodName)) ∈ ab_GW := ab_gw 1424 (by decide +kernel) rfl
theorem w_1425 : (Jvm.Cond.instanceMethod ({ cls := "DominoKingModel", name := "pour", desc := "(I)I" } : Jvm.MethodName)) ∈ ab_GW := ab_gw 1425 (by decide +kernel) rfl
theorem w_1426 : (Jvm.Cond.selects "DominoKingModel" ({ cls := "DominoKingModel", name := "pour", desc := "(I)I" } : Jvm.MethodName) ({ cls := "DominoKingModel", name := "pour", desc := "(I)I" } : Jvm.MethodName)) ∈ ab_GW := ab_gw 1426 (by decide +kernel) rfl
theorem w_1427 : (Jvm.Cond.code ({ cls := "DominoKingModel", name := "pour", desc := "(I)I" } : Jvm.MethodName) prog_11_method_84_code (6 : Nat) (Option.some Jvm.ClassFile.FieldType.int)) ∈ ab_GW := ab_gw 1427 (by decide +kernel) rfl
theorem w_1428 : (Jvm.Cond.methodLink "DominoKingLaw" (152 : Nat) ({ cls := "DominoKingModel", name := "reads", desc := "(I)I" } : Jvm.MethodName)) ∈ ab_GW := ab_gw 1428 (by decide +kernel) rfl
theorem w_1429 : (Jvm.Cond.instanceMethod ({ cls := "DominoKingModel", name := "reads", desc := "(I)I" } : Jvm.MethodName)) ∈ ab_GW := ab_gw 1429 (by decide +kernel) rfl
theorem w_1430 : (Jvm.Cond.selects "DominoKingModel" ({ cls := "DominoKingModel", name := "reads", desc := "(I)I" } : Jvm.MethodName) ({ cls := "DominoKingModel", name := "reads", desc := "(I)I" } : Jvm.MethodName)) ∈ ab_GW := ab_gw 1430 (by decide +kernel) rfl
theorem w_1431 : (Jvm.Cond.code ({ cls := "DominoKingModel", name := "reads", desc := "(I)I" } : Jvm.MethodName) prog_11_method_85_code (4 : Nat) (Option.some Jvm.ClassFile.FieldType.int)) ∈ ab_GW := ab_gw 1431 (by decide +kernel) rfl
theorem w_1432 : (Jvm.Cond.methodLink "DominoKingLaw" (157 : Nat) ({ cls := "DominoKingModel", name := "copy", desc := "(IIIII)I" } : Jvm.MethodName)) ∈ ab_GW := ab_gw 1432 (by decide +kernel) rfl
theorem w_1433 : (Jvm.Cond.instanceMethod ({ cls := "DominoKingModel", name := "copy", desc := "(IIIII)I" } : Jvm.MethodName)) ∈ ab_GW := ab_gw 1433 (by decide +kernel) rfl
theorem w_1434 : (Jvm.Cond.selects "DominoKingModel" ({ cls := "DominoKingModel", name := "copy", desc := "(IIIII)I" } : Jvm.MethodName) ({ cls := "DominoKingModel", name := "copy", desc := "(IIIII)I" } : Jvm.MethodName)) ∈ ab_GW := ab_gw 1434 (by decide +kernel) rfl
theorem w_1435 : (Jvm.Cond.code ({ cls := "DominoKingModel", name := "copy", desc := "(IIIII)I" } : Jvm.MethodName) prog_11_method_86_code (7 : Nat) (Option.some Jvm.ClassFile.FieldType.int)) ∈ ab_GW := ab_gw 1435 (by decide +kernel) rfl
theorem w_1436 : (Jvm.Cond.methodLink "DominoKingLaw" (161 : Nat) ({ cls := "DominoKingModel", name := "lay", desc := "(III)I" } : Jvm.MethodName)) ∈ ab_GW := ab_gw 1436 (by decide +kernel) rfl
theorem w_1437 : (Jvm.Cond.instanceMethod ({ cls := "DominoKingModel", name := "lay", desc := "(III)I" } : Jvm.MethodName)) ∈ ab_GW := ab_gw 1437 (by decide +kernel) rfl
theorem w_1438 : (Jvm.Cond.selects "DominoKingModel" ({ cls := "DominoKingModel", name := "lay", desc := "(III)I" } : Jvm.MethodName) ({ cls := "DominoKingModel", name := "lay", desc := "(III)I" } : Jvm.MethodName)) ∈ ab_GW := ab_gw 1438 (by decide +kernel) rfl
theorem w_1439 : (Jvm.Cond.code ({ cls := "DominoKingModel", name := "lay", desc := "(III)I" } : Jvm.MethodName) prog_11_method_87_code (6 : Nat) (Option.some Jvm.ClassFile.FieldType.int)) ∈ ab_GW := ab_gw 1439 (by decide +kernel) rfl
theorem w_1440 : (Jvm.Cond.methodLink "DominoKingModel" (284 : Nat) ({ cls := "DominoKingModel", name := "isSlot", desc := "(I)Z" } : Jvm.MethodName)) ∈ ab_GW := ab_gw 1440 (by decide +kernel) rfl
theorem w_1441 : (Jvm.Cond.static ({ cls := "DominoKingModel", name := "isSlot", desc := "(I)Z" } : Jvm.MethodName)) ∈ ab_GW := ab_gw 1441 (by decide +kernel) rfl
theorem w_1442 : (Jvm.Cond.code ({ cls := "DominoKingModel", name := "isSlot", desc := "(I)Z" } : Jvm.MethodName) prog_11_method_81_code (1 : Nat) (Option.some Jvm.ClassFile.FieldType.boolean)) ∈ ab_GW := ab_gw 1442 (by decide +kernel) rfl
theorem w_1443 : (Jvm.Cond.methodLink "DominoKingLaw" (165 : Nat) ({ cls := "DominoKingModel", name := "ask", desc := "(II)I" } : Jvm.MethodName)) ∈ ab_GW := ab_gw 1443 (by decide +kernel) rfl
theorem w_1444 : (Jvm.Cond.instanceMethod ({ cls := "DominoKingModel", name := "ask", desc := "(II)I" } : Jvm.MethodName)) ∈ ab_GW := ab_gw 1444 (by decide +kernel) rfl
theorem w_1445 : (Jvm.Cond.selects "DominoKingModel" ({ cls := "DominoKingModel", name := "ask", desc := "(II)I" } : Jvm.MethodName) ({ cls := "DominoKingModel", name := "ask", desc := "(II)I" } : Jvm.MethodName)) ∈ ab_GW := ab_gw 1445 (by decide +kernel) rfl
theorem w_1446 : (Jvm.Cond.code ({ cls := "DominoKingModel", name := "ask", desc := "(II)I" } : Jvm.MethodName) prog_11_method_88_code (3 : Nat) (Option.some Jvm.ClassFile.FieldType.int)) ∈ ab_GW := ab_gw 1446 (by decide +kernel) rfl
theorem w_1447 : (Jvm.Cond.methodLink "DominoKingLaw" (169 : Nat) ({ cls := "DominoKingModel", name := "item", desc := "(II)I" } : Jvm.MethodName)) ∈ ab_GW := ab_gw 1447 (by decide +kernel) rfl
theorem w_1448 : (Jvm.Cond.instanceMethod ({ cls := "DominoKingModel", name := "item", desc := "(II)I" } : Jvm.MethodName)) ∈ ab_GW := ab_gw 1448 (by decide +kernel) rfl
theorem w_1449 : (Jvm.Cond.selects "DominoKingModel" ({ cls := "DominoKingModel", name := "item", desc := "(II)I" } : Jvm.MethodName) ({ cls := "DominoKingModel", name := "item", desc := "(II)I" } : Jvm.MethodName)) ∈ ab_GW := ab_gw 1449 (by decide +kernel) rfl
theorem w_1450 : (Jvm.Cond.code ({ cls := "DominoKingModel", name := "item", desc := "(II)I" } : Jvm.MethodName) prog_11_method_89_code (4 : Nat) (Option.some Jvm.ClassFile.FieldType.int)) ∈ ab_GW := ab_gw 1450 (by decide +kernel) rfl
theorem w_1451 : (Jvm.Cond.methodLink "DominoKingLaw" (173 : Nat) ({ cls := "DominoKingModel", name := "rest", desc := "(II)I" } : Jvm.MethodName)) ∈ ab_GW := ab_gw 1451 (by decide +kernel) rfl
theorem w_1452 : (Jvm.Cond.instanceMethod ({ cls := "DominoKingModel", name := "rest", desc := "(II)I" } : Jvm.MethodName)) ∈ ab_GW := ab_gw 1452 (by decide +kernel) rfl
theorem w_1453 : (Jvm.Cond.selects "DominoKingModel" ({ cls := "DominoKingModel", name := "rest", desc := "(II)I" } : Jvm.MethodName) ({ cls := "DominoKingModel", name := "rest", desc := "(II)I" } : Jvm.MethodName)) ∈ ab_GW := ab_gw 1453 (by decide +kernel) rfl
theorem w_1454 : (Jvm.Cond.code ({ cls := "DominoKingModel", name := "rest", desc := "(II)I" } : Jvm.MethodName) prog_11_method_90_code (3 : Nat) (Option.some Jvm.ClassFile.FieldType.int)) ∈ ab_GW := ab_gw 1454 (by decide +kernel) rfl
theorem w_1455 : (Jvm.Cond.methodLink "DominoKingLaw" (177 : Nat) ({ cls := "DominoKingModel", name := "tell", desc := "(I)I" } : Jvm.MethodName)) ∈ ab_GW := ab_gw 1455 (by decide +kernel) rfl
theorem w_1456 : (Jvm.Cond.instanceMethod ({ cls := "DominoKingModel", name := "tell", desc := "(I)I" } : Jvm.MethodName)) ∈ ab_GW := ab_gw 1456 (by decide +kernel) rfl
theorem w_1457 : (Jvm.Cond.selects "DominoKingModel" ({ cls := "DominoKingModel", name := "tell", desc := "(I)I" } : Jvm.MethodName) ({ cls := "DominoKingModel", name := "tell", desc := "(I)I" } : Jvm.MethodName)) ∈ ab_GW := ab_gw 1457 (by decide +kernel) rfl
theorem w_1458 : (Jvm.Cond.code ({ cls := "DominoKingModel", name := "tell", desc := "(I)I" } : Jvm.MethodName) prog_11_method_91_code (2 : Nat) (Option.some Jvm.ClassFile.FieldType.int)) ∈ ab_GW := ab_gw 1458 (by decide +kernel) rfl
theorem w_1459 : (Jvm.Cond.methodLink "DominoKingLaw" (181 : Nat) ({ cls := "DominoKingModel", name := "check", desc := "(I)I" } : Jvm.MethodName)) ∈ ab_GW := ab_gw 1459 (by decide +kernel) rfl
theorem w_1460 : (Jvm.Cond.instanceMethod ({ cls := "DominoKingModel", name := "check", desc := "(I)I" } : Jvm.MethodName)) ∈ ab_GW := ab_gw 1460 (by decide +kernel) rfl
theorem w_1461 : (Jvm.Cond.selects "DominoKingModel" ({ cls := "DominoKingModel", name := "check", desc := "(I)I" } : Jvm.MethodName) ({ cls := "DominoKingModel", name := "check", desc := "(I)I" } : Jvm.MethodName)) ∈ ab_GW := ab_gw 1461 (by decide +kernel) rfl
theorem w_1462 : (Jvm.Cond.code ({ cls := "DominoKingModel", name := "check", desc := "(I)I" } : Jvm.MethodName) prog_11_method_92_code (6 : Nat) (Option.some Jvm.ClassFile.FieldType.int)) ∈ ab_GW := ab_gw 1462 (by decide +kernel) rfl
theorem w_1463 : (Jvm.Cond.methodLink "DominoKingModel" (294 : Nat) ({ cls := "DominoKingModel", name := "copyAll", desc := "([I[I)V" } : Jvm.MethodName)) ∈ ab_GW := ab_gw 1463 (by decide +kernel) rfl
theorem w_1464 : (Jvm.Cond.static ({ cls := "DominoKingModel", name := "copyAll", desc := "([I[I)V" } : Jvm.MethodName)) ∈ ab_GW := ab_gw 1464 (by decide +kernel) rfl
theorem w_1465 : (Jvm.Cond.code ({ cls := "DominoKingModel", name := "copyAll", desc := "([I[I)V" } : Jvm.MethodName) prog_11_method_5_code (3 : Nat) (Option.none : Option Jvm.ClassFile.FieldType)) ∈ ab_GW := ab_gw 1465 (by decide +kernel) rfl
theorem w_1466 : (Jvm.Cond.methodLink "DominoKingLaw" (185 : Nat) ({ cls := "DominoKingModel", name := "keep", desc := "()I" } : Jvm.MethodName)) ∈ ab_GW := ab_gw 1466 (by decide +kernel) rfl
theorem w_1467 : (Jvm.Cond.instanceMethod ({ cls := "DominoKingModel", name := "keep", desc := "()I" } : Jvm.MethodName)) ∈ ab_GW := ab_gw 1467 (by decide +kernel) rfl
theorem w_1468 : (Jvm.Cond.selects "DominoKingModel" ({ cls := "DominoKingModel", name := "keep", desc := "()I" } : Jvm.MethodName) ({ cls := "DominoKingModel", name := "keep", desc := "()I" } : Jvm.MethodName)) ∈ ab_GW := ab_gw 1468 (by decide +kernel) rfl
theorem w_1469 : (Jvm.Cond.code ({ cls := "DominoKingModel", name := "keep", desc := "()I" } : Jvm.MethodName) prog_11_method_93_code (1 : Nat) (Option.some Jvm.ClassFile.FieldType.int)) ∈ ab_GW := ab_gw 1469 (by decide +kernel) rfl
theorem w_1470 : (Jvm.Cond.methodLink "DominoKingLaw" (189 : Nat) ({ cls := "DominoKingModel", name := "back", desc := "()I" } : Jvm.MethodName)) ∈ ab_GW := ab_gw 1470 (by decide +kernel) rfl
theorem w_1471 : (Jvm.Cond.instanceMethod ({ cls := "DominoKingModel", name := "back", desc := "()I" } : Jvm.MethodName)) ∈ ab_GW := ab_gw 1471 (by decide +kernel) rfl
theorem w_1472 : (Jvm.Cond.selects "DominoKingModel" ({ cls := "DominoKingModel", name := "back", desc := "()I" } : Jvm.MethodName) ({ cls := "DominoKingModel", name := "back", desc := "()I" } : Jvm.MethodName)) ∈ ab_GW := ab_gw 1472 (by decide +kernel) rfl
theorem w_1473 : (Jvm.Cond.code ({ cls := "DominoKingModel", name := "back", desc := "()I" } : Jvm.MethodName) prog_11_method_94_code (1 : Nat) (Option.some Jvm.ClassFile.FieldType.int)) ∈ ab_GW := ab_gw 1473 (by decide +kernel) rfl
theorem w_1474 : (Jvm.Cond.methodLink "DominoKingLaw" (193 : Nat) ({ cls := "DominoKingModel", name := "count", desc := "(I)I" } : Jvm.MethodName)) ∈ ab_GW := ab_gw 1474 (by decide +kernel) rfl
theorem w_1475 : (Jvm.Cond.instanceMethod ({ cls := "DominoKingModel", name := "count", desc := "(I)I" } : Jvm.MethodName)) ∈ ab_GW := ab_gw 1475 (by decide +kernel) rfl
theorem w_1476 : (Jvm.Cond.selects "DominoKingModel" ({ cls := "DominoKingModel", name := "count", desc := "(I)I" } : Jvm.MethodName) ({ cls := "DominoKingModel", name := "count", desc := "(I)I" } : Jvm.MethodName)) ∈ ab_GW := ab_gw 1476 (by decide +kernel) rfl
theorem w_1477 : (Jvm.Cond.code ({ cls := "DominoKingModel", name := "count", desc := "(I)I" } : Jvm.MethodName) prog_11_method_95_code (2 : Nat) (Option.some Jvm.ClassFile.FieldType.int)) ∈ ab_GW := ab_gw 1477 (by decide +kernel) rfl
theorem w_1478 : (Jvm.Cond.fieldLink "java/lang/String" (9 : Nat) "java/lang/String" "value" "[B") ∈ ab_GW := ab_gw 1478 (by decide +kernel) rfl
theorem w_1479 : (Jvm.Cond.fieldLink "java/lang/String" (15 : Nat) "java/lang/String" "coder" "B") ∈ ab_GW := ab_gw 1479 (by decide +kernel) rfl
theorem hinX1 : ∀ w ∈ u_ws RX1 TX1 11, w ∈ ab_GW := ab_hin [208, 210, 212, 214, 216, 218, 220, 222, 224, 226, 228] (by decide +kernel) (by decide +kernel)
theorem hinX2 : ∀ w ∈ u_ws RX2 TX2 3, w ∈ ab_GW := ab_hin [248, 250, 252] (by decide +kernel) (by decide +kernel)
theorem hinX3 : ∀ w ∈ u_ws RX3 TX3 6, w ∈ ab_GW := ab_hin [272, 274, 276, 278, 280, 282] (by decide +kernel) (by decide +kernel)
theorem hinX4 : ∀ w ∈ u_ws RX4 TX4 15, w ∈ ab_GW := ab_hin [123, 125, 127, 129, 131, 133, 135, 137, 139, 141, 143, 145, 147, 149, 151] (by decide +kernel) (by decide +kernel)
theorem hinX5 : ∀ w ∈ u_ws RX5 TX5 2, w ∈ ab_GW := ab_hin [184, 186] (by decide +kernel) (by decide +kernel)
theorem hinX6 : ∀ w ∈ u_ws RX6 TX6 5, w ∈ ab_GW := ab_hin [863, 865, 867, 869, 871] (by decide +kernel) (by decide +kernel)
theorem hinX7 : ∀ w ∈ u_ws RX7 TX7 3, w ∈ ab_GW := ab_hin [166, 168, 170] (by decide +kernel) (by decide +kernel)
theorem hinX8 : ∀ w ∈ u_ws RX8 TX8 10, w ∈ ab_GW := ab_hin [295, 297, 299, 301, 303, 305, 307, 309, 311, 313] (by decide +kernel) (by decide +kernel)
theorem hinX9 : ∀ w ∈ u_ws RX9 TX9 36, w ∈ ab_GW := ab_hin [1027, 1029, 1031, 1033, 1035, 1037, 1039, 1041, 1043, 1045, 1047, 1049, 1051, 1053, 1055, 1057, 1059, 1061, 1063, 1065, 1067, 1069, 1071, 1073, 1075, 1077, 1079, 1081, 1083, 1085, 1087, 1089, 1091, 1093, 1095, 1097] (by decide +kernel) (by decide +kernel)
