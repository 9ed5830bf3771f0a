/-! the words that the code rests on, by their places -/
theorem w_716 : (Jvm.Cond.static ({ cls := "java/lang/String", name := "checkIndex", desc := "(II)V" } : Jvm.MethodName)) ∈ ab_GW := ab_gw 716 (by decide +kernel) rfl
theorem w_717 : (Jvm.Cond.code ({ cls := "java/lang/String", name := "checkIndex", desc := "(II)V" } : Jvm.MethodName) prog_16_method_155_code (2 : Nat) (Option.none : Option Jvm.ClassFile.FieldType)) ∈ ab_GW := ab_gw 717 (by decide +kernel) rfl
theorem w_718 : (Jvm.Cond.fieldLink "java/lang/String" (1053 : Nat) "jdk/internal/util/Preconditions" "SIOOBE_FORMATTER" "Ljava/util/function/BiFunction;") ∈ ab_GW := ab_gw 718 (by decide +kernel) rfl
theorem w_720 : (Jvm.Cond.methodLink "java/lang/String" (1059 : Nat) ({ cls := "jdk/internal/util/Preconditions", name := "checkIndex", desc := "(IILjava/util/function/BiFunction;)I" } : Jvm.MethodName)) ∈ ab_GW := ab_gw 720 (by decide +kernel) rfl
theorem w_721 : (Jvm.Cond.static ({ cls := "jdk/internal/util/Preconditions", name := "checkIndex", desc := "(IILjava/util/function/BiFunction;)I" } : Jvm.MethodName)) ∈ ab_GW := ab_gw 721 (by decide +kernel) rfl
theorem w_722 : (Jvm.Cond.code ({ cls := "jdk/internal/util/Preconditions", name := "checkIndex", desc := "(IILjava/util/function/BiFunction;)I" } : Jvm.MethodName) prog_21_method_11_code (3 : Nat) (Option.some Jvm.ClassFile.FieldType.int)) ∈ ab_GW := ab_gw 722 (by decide +kernel) rfl
theorem w_747 : (Jvm.Cond.methodLink "DominoKing$Reader" (51 : Nat) ({ cls := "DominoKing$Reader", name := "readLevel", desc := "(III)V" } : Jvm.MethodName)) ∈ ab_GW := ab_gw 747 (by decide +kernel) rfl
theorem w_749 : (Jvm.Cond.instanceMethod ({ cls := "DominoKing$Reader", name := "readLevel", desc := "(III)V" } : Jvm.MethodName)) ∈ ab_GW := ab_gw 749 (by decide +kernel) rfl
theorem w_750 : (Jvm.Cond.code ({ cls := "DominoKing$Reader", name := "readLevel", desc := "(III)V" } : Jvm.MethodName) prog_3_method_9_code (7 : Nat) (Option.none : Option Jvm.ClassFile.FieldType)) ∈ ab_GW := ab_gw 750 (by decide +kernel) rfl
theorem w_751 : (Jvm.Cond.methodLink "DominoKing$Reader" (112 : Nat) ({ cls := "DominoKing$Reader", name := "readPiece", desc := "(II)V" } : Jvm.MethodName)) ∈ ab_GW := ab_gw 751 (by decide +kernel) rfl
theorem w_753 : (Jvm.Cond.instanceMethod ({ cls := "DominoKing$Reader", name := "readPiece", desc := "(II)V" } : Jvm.MethodName)) ∈ ab_GW := ab_gw 753 (by decide +kernel) rfl
theorem w_754 : (Jvm.Cond.code ({ cls := "DominoKing$Reader", name := "readPiece", desc := "(II)V" } : Jvm.MethodName) prog_3_method_11_code (4 : Nat) (Option.none : Option Jvm.ClassFile.FieldType)) ∈ ab_GW := ab_gw 754 (by decide +kernel) rfl
theorem w_755 : (Jvm.Cond.methodLink "DominoKing$Reader" (116 : Nat) ({ cls := "DominoKing$Reader", name := "signAtHand", desc := "()I" } : Jvm.MethodName)) ∈ ab_GW := ab_gw 755 (by decide +kernel) rfl
theorem w_757 : (Jvm.Cond.instanceMethod ({ cls := "DominoKing$Reader", name := "signAtHand", desc := "()I" } : Jvm.MethodName)) ∈ ab_GW := ab_gw 757 (by decide +kernel) rfl
theorem w_758 : (Jvm.Cond.code ({ cls := "DominoKing$Reader", name := "signAtHand", desc := "()I" } : Jvm.MethodName) prog_3_method_8_code (1 : Nat) (Option.some Jvm.ClassFile.FieldType.int)) ∈ ab_GW := ab_gw 758 (by decide +kernel) rfl
theorem w_759 : (Jvm.Cond.methodLink "DominoKing$Reader" (122 : Nat) ({ cls := "DominoKing$Reader", name := "emit", desc := "(II)V" } : Jvm.MethodName)) ∈ ab_GW := ab_gw 759 (by decide +kernel) rfl
theorem w_761 : (Jvm.Cond.instanceMethod ({ cls := "DominoKing$Reader", name := "emit", desc := "(II)V" } : Jvm.MethodName)) ∈ ab_GW := ab_gw 761 (by decide +kernel) rfl
theorem w_762 : (Jvm.Cond.code ({ cls := "DominoKing$Reader", name := "emit", desc := "(II)V" } : Jvm.MethodName) prog_3_method_16_code (3 : Nat) (Option.none : Option Jvm.ClassFile.FieldType)) ∈ ab_GW := ab_gw 762 (by decide +kernel) rfl
theorem w_763 : (Jvm.Cond.methodLink "DominoKing$Reader" (125 : Nat) ({ cls := "DominoKing$Reader", name := "close", desc := "()V" } : Jvm.MethodName)) ∈ ab_GW := ab_gw 763 (by decide +kernel) rfl
theorem w_765 : (Jvm.Cond.instanceMethod ({ cls := "DominoKing$Reader", name := "close", desc := "()V" } : Jvm.MethodName)) ∈ ab_GW := ab_gw 765 (by decide +kernel) rfl
theorem w_766 : (Jvm.Cond.code ({ cls := "DominoKing$Reader", name := "close", desc := "()V" } : Jvm.MethodName) prog_3_method_12_code (1 : Nat) (Option.none : Option Jvm.ClassFile.FieldType)) ∈ ab_GW := ab_gw 766 (by decide +kernel) rfl
theorem w_767 : (Jvm.Cond.methodLink "DominoKing$Reader" (128 : Nat) ({ cls := "DominoKing$Reader", name := "readOperand", desc := "()V" } : Jvm.MethodName)) ∈ ab_GW := ab_gw 767 (by decide +kernel) rfl
theorem w_769 : (Jvm.Cond.instanceMethod ({ cls := "DominoKing$Reader", name := "readOperand", desc := "()V" } : Jvm.MethodName)) ∈ ab_GW := ab_gw 769 (by decide +kernel) rfl
theorem w_770 : (Jvm.Cond.code ({ cls := "DominoKing$Reader", name := "readOperand", desc := "()V" } : Jvm.MethodName) prog_3_method_13_code (1 : Nat) (Option.none : Option Jvm.ClassFile.FieldType)) ∈ ab_GW := ab_gw 770 (by decide +kernel) rfl
theorem w_771 : (Jvm.Cond.methodLink "DominoKing$Reader" (131 : Nat) ({ cls := "DominoKing$Reader", name := "numberAtHand", desc := "()I" } : Jvm.MethodName)) ∈ ab_GW := ab_gw 771 (by decide +kernel) rfl
theorem w_773 : (Jvm.Cond.instanceMethod ({ cls := "DominoKing$Reader", name := "numberAtHand", desc := "()I" } : Jvm.MethodName)) ∈ ab_GW := ab_gw 773 (by decide +kernel) rfl
theorem w_774 : (Jvm.Cond.code ({ cls := "DominoKing$Reader", name := "numberAtHand", desc := "()I" } : Jvm.MethodName) prog_3_method_14_code (3 : Nat) (Option.some Jvm.ClassFile.FieldType.int)) ∈ ab_GW := ab_gw 774 (by decide +kernel) rfl
theorem w_775 : (Jvm.Cond.methodLink "DominoKing$Reader" (134 : Nat) ({ cls := "DominoKing$Reader", name := "nameAtHand", desc := "()I" } : Jvm.MethodName)) ∈ ab_GW := ab_gw 775 (by decide +kernel) rfl
theorem w_777 : (Jvm.Cond.instanceMethod ({ cls := "DominoKing$Reader", name := "nameAtHand", desc := "()I" } : Jvm.MethodName)) ∈ ab_GW := ab_gw 777 (by decide +kernel) rfl
theorem w_778 : (Jvm.Cond.code ({ cls := "DominoKing$Reader", name := "nameAtHand", desc := "()I" } : Jvm.MethodName) prog_3_method_15_code (1 : Nat) (Option.some Jvm.ClassFile.FieldType.int)) ∈ ab_GW := ab_gw 778 (by decide +kernel) rfl
theorem w_779 : (Jvm.Cond.methodLink "DominoKing$Reader" (137 : Nat) ({ cls := "java/lang/String", name := "indexOf", desc := "(I)I" } : Jvm.MethodName)) ∈ ab_GW := ab_gw 779 (by decide +kernel) rfl
theorem w_780 : (Jvm.Cond.instanceMethod ({ cls := "java/lang/String", name := "indexOf", desc := "(I)I" } : Jvm.MethodName)) ∈ ab_GW := ab_gw 780 (by decide +kernel) rfl
theorem w_781 : (Jvm.Cond.selects "java/lang/String" ({ cls := "java/lang/String", name := "indexOf", desc := "(I)I" } : Jvm.MethodName) ({ cls := "java/lang/String", name := "indexOf", desc := "(I)I" } : Jvm.MethodName)) ∈ ab_GW := ab_gw 781 (by decide +kernel) rfl
theorem w_782 : (Jvm.Cond.code ({ cls := "java/lang/String", name := "indexOf", desc := "(I)I" } : Jvm.MethodName) prog_16_method_79_code (2 : Nat) (Option.some Jvm.ClassFile.FieldType.int)) ∈ ab_GW := ab_gw 782 (by decide +kernel) rfl
theorem w_783 : (Jvm.Cond.methodLink "java/lang/String" (633 : Nat) ({ cls := "java/lang/String", name := "indexOf", desc := "(II)I" } : Jvm.MethodName)) ∈ ab_GW := ab_gw 783 (by decide +kernel) rfl
theorem w_784 : (Jvm.Cond.instanceMethod ({ cls := "java/lang/String", name := "indexOf", desc := "(II)I" } : Jvm.MethodName)) ∈ ab_GW := ab_gw 784 (by decide +kernel) rfl
theorem w_785 : (Jvm.Cond.selects "java/lang/String" ({ cls := "java/lang/String", name := "indexOf", desc := "(II)I" } : Jvm.MethodName) ({ cls := "java/lang/String", name := "indexOf", desc := "(II)I" } : Jvm.MethodName)) ∈ ab_GW := ab_gw 785 (by decide +kernel) rfl
theorem w_786 : (Jvm.Cond.code ({ cls := "java/lang/String", name := "indexOf", desc := "(II)I" } : Jvm.MethodName) prog_16_method_80_code (3 : Nat) (Option.some Jvm.ClassFile.FieldType.int)) ∈ ab_GW := ab_gw 786 (by decide +kernel) rfl
theorem w_787 : (Jvm.Cond.methodLink "java/lang/String" (505 : Nat) ({ cls := "java/lang/String", name := "length", desc := "()I" } : Jvm.MethodName)) ∈ ab_GW := ab_gw 787 (by decide +kernel) rfl
theorem w_788 : (Jvm.Cond.methodLink "java/lang/String" (637 : Nat) ({ cls := "java/lang/StringLatin1", name := "indexOf", desc := "([BIII)I" } : Jvm.MethodName)) ∈ ab_GW := ab_gw 788 (by decide +kernel) rfl
theorem w_789 : (Jvm.Cond.static ({ cls := "java/lang/StringLatin1", name := "indexOf", desc := "([BIII)I" } : Jvm.MethodName)) ∈ ab_GW := ab_gw 789 (by decide +kernel) rfl
theorem w_790 : (Jvm.Cond.code ({ cls := "java/lang/StringLatin1", name := "indexOf", desc := "([BIII)I" } : Jvm.MethodName) prog_17_method_22_code (4 : Nat) (Option.some Jvm.ClassFile.FieldType.int)) ∈ ab_GW := ab_gw 790 (by decide +kernel) rfl
theorem w_791 : (Jvm.Cond.methodLink "java/lang/StringLatin1" (88 : Nat) ({ cls := "java/lang/StringLatin1", name := "canEncode", desc := "(I)Z" } : Jvm.MethodName)) ∈ ab_GW := ab_gw 791 (by decide +kernel) rfl
theorem w_792 : (Jvm.Cond.static ({ cls := "java/lang/StringLatin1", name := "canEncode", desc := "(I)Z" } : Jvm.MethodName)) ∈ ab_GW := ab_gw 792 (by decide +kernel) rfl
theorem w_793 : (Jvm.Cond.code ({ cls := "java/lang/StringLatin1", name := "canEncode", desc := "(I)Z" } : Jvm.MethodName) prog_17_method_4_code (1 : Nat) (Option.some Jvm.ClassFile.FieldType.boolean)) ∈ ab_GW := ab_gw 793 (by decide +kernel) rfl
theorem w_794 : (Jvm.Cond.methodLink "java/lang/StringLatin1" (92 : Nat) ({ cls := "java/lang/Math", name := "max", desc := "(II)I" } : Jvm.MethodName)) ∈ ab_GW := ab_gw 794 (by decide +kernel) rfl
theorem w_795 : (Jvm.Cond.methodLink "java/lang/StringLatin1" (38 : Nat) ({ cls := "java/lang/Math", name := "min", desc := "(II)I" } : Jvm.MethodName)) ∈ ab_GW := ab_gw 795 (by decide +kernel) rfl
theorem w_796 : (Jvm.Cond.methodLink "java/lang/StringLatin1" (95 : Nat) ({ cls := "java/lang/StringLatin1", name := "indexOfChar", desc := "([BIII)I" } : Jvm.MethodName)) ∈ ab_GW := ab_gw 796 (by decide +kernel) rfl
theorem w_797 : (Jvm.Cond.static ({ cls := "java/lang/StringLatin1", name := "indexOfChar", desc := "([BIII)I" } : Jvm.MethodName)) ∈ ab_GW := ab_gw 797 (by decide +kernel) rfl
theorem w_798 : (Jvm.Cond.code ({ cls := "java/lang/StringLatin1", name := "indexOfChar", desc := "([BIII)I" } : Jvm.MethodName) prog_17_method_23_code (6 : Nat) (Option.some Jvm.ClassFile.FieldType.int)) ∈ ab_GW := ab_gw 798 (by decide +kernel) rfl
theorem w_802 : (Jvm.Cond.methodLink "java/lang/StringUTF16" (224 : Nat) ({ cls := "java/lang/Math", name := "max", desc := "(II)I" } : Jvm.MethodName)) ∈ ab_GW := ab_gw 802 (by decide +kernel) rfl
theorem w_803 : (Jvm.Cond.methodLink "java/lang/StringUTF16" (183 : Nat) ({ cls := "java/lang/Math", name := "min", desc := "(II)I" } : Jvm.MethodName)) ∈ ab_GW := ab_gw 803 (by decide +kernel) rfl
theorem w_804 : (Jvm.Cond.constant "java/lang/StringUTF16" (227 : Nat) (65536 : Int32)) ∈ ab_GW := ab_gw 804 (by decide +kernel) rfl
theorem w_814 : (Jvm.Cond.methodLink "java/lang/String" (1062 : Nat) ({ cls := "jdk/internal/util/Preconditions", name := "checkFromToIndex", desc := "(IIILjava/util/function/BiFunction;)I" } : Jvm.MethodName)) ∈ ab_GW := ab_gw 814 (by decide +kernel) rfl
theorem w_815 : (Jvm.Cond.static ({ cls := "jdk/internal/util/Preconditions", name := "checkFromToIndex", desc := "(IIILjava/util/function/BiFunction;)I" } : Jvm.MethodName)) ∈ ab_GW := ab_gw 815 (by decide +kernel) rfl
theorem w_816 : (Jvm.Cond.code ({ cls := "jdk/internal/util/Preconditions", name := "checkFromToIndex", desc := "(IIILjava/util/function/BiFunction;)I" } : Jvm.MethodName) prog_21_method_12_code (4 : Nat) (Option.some Jvm.ClassFile.FieldType.int)) ∈ ab_GW := ab_gw 816 (by decide +kernel) rfl
theorem w_823 : (Jvm.Cond.methodLink "java/lang/StringUTF16" (164 : Nat) ({ cls := "java/lang/Character", name := "isValidCodePoint", desc := "(I)Z" } : Jvm.MethodName)) ∈ ab_GW := ab_gw 823 (by decide +kernel) rfl
theorem w_824 : (Jvm.Cond.static ({ cls := "java/lang/Character", name := "isValidCodePoint", desc := "(I)Z" } : Jvm.MethodName)) ∈ ab_GW := ab_gw 824 (by decide +kernel) rfl
theorem w_825 : (Jvm.Cond.code ({ cls := "java/lang/Character", name := "isValidCodePoint", desc := "(I)Z" } : Jvm.MethodName) prog_12_method_11_code (2 : Nat) (Option.some Jvm.ClassFile.FieldType.boolean)) ∈ ab_GW := ab_gw 825 (by decide +kernel) rfl
theorem w_826 : (Jvm.Cond.methodLink "java/lang/StringUTF16" (157 : Nat) ({ cls := "java/lang/Character", name := "highSurrogate", desc := "(I)C" } : Jvm.MethodName)) ∈ ab_GW := ab_gw 826 (by decide +kernel) rfl
theorem w_827 : (Jvm.Cond.static ({ cls := "java/lang/Character", name := "highSurrogate", desc := "(I)C" } : Jvm.MethodName)) ∈ ab_GW := ab_gw 827 (by decide +kernel) rfl
theorem w_828 : (Jvm.Cond.code ({ cls := "java/lang/Character", name := "highSurrogate", desc := "(I)C" } : Jvm.MethodName) prog_12_method_28_code (1 : Nat) (Option.some Jvm.ClassFile.FieldType.char)) ∈ ab_GW := ab_gw 828 (by decide +kernel) rfl
theorem w_829 : (Jvm.Cond.constant "java/lang/Character" (110 : Nat) (55232 : Int32)) ∈ ab_GW := ab_gw 829 (by decide +kernel) rfl
theorem w_830 : (Jvm.Cond.methodLink "java/lang/StringUTF16" (161 : Nat) ({ cls := "java/lang/Character", name := "lowSurrogate", desc := "(I)C" } : Jvm.MethodName)) ∈ ab_GW := ab_gw 830 (by decide +kernel) rfl
theorem w_831 : (Jvm.Cond.static ({ cls := "java/lang/Character", name := "lowSurrogate", desc := "(I)C" } : Jvm.MethodName)) ∈ ab_GW := ab_gw 831 (by decide +kernel) rfl
theorem w_832 : (Jvm.Cond.code ({ cls := "java/lang/Character", name := "lowSurrogate", desc := "(I)C" } : Jvm.MethodName) prog_12_method_29_code (1 : Nat) (Option.some Jvm.ClassFile.FieldType.char)) ∈ ab_GW := ab_gw 832 (by decide +kernel) rfl
theorem w_833 : (Jvm.Cond.constant "java/lang/Character" (76 : Nat) (56320 : Int32)) ∈ ab_GW := ab_gw 833 (by decide +kernel) rfl
theorem w_834 : (Jvm.Cond.methodLink "DominoKing$Reader" (119 : Nat) ({ cls := "DominoKing$Reader", name := "levelOf", desc := "(I)I" } : Jvm.MethodName)) ∈ ab_GW := ab_gw 834 (by decide +kernel) rfl
theorem w_835 : (Jvm.Cond.static ({ cls := "DominoKing$Reader", name := "levelOf", desc := "(I)I" } : Jvm.MethodName)) ∈ ab_GW := ab_gw 835 (by decide +kernel) rfl
theorem w_836 : (Jvm.Cond.code ({ cls := "DominoKing$Reader", name := "levelOf", desc := "(I)I" } : Jvm.MethodName) prog_3_method_10_code (1 : Nat) (Option.some Jvm.ClassFile.FieldType.int)) ∈ ab_GW := ab_gw 836 (by decide +kernel) rfl
theorem w_837 : (Jvm.Cond.classLink "DominoKing$Reader" (58 : Nat) "DominoKing$Text") ∈ ab_GW := ab_gw 837 (by decide +kernel) rfl
theorem w_838 : (Jvm.Cond.instantiable "DominoKing$Text" (5 : Nat)) ∈ ab_GW := ab_gw 838 (by decide +kernel) rfl
theorem w_839 : (Jvm.Cond.methodLink "DominoKing$Reader" (66 : Nat) ({ cls := "java/util/Arrays", name := "copyOf", desc := "([II)[I" } : Jvm.MethodName)) ∈ ab_GW := ab_gw 839 (by decide +kernel) rfl
theorem w_840 : (Jvm.Cond.static ({ cls := "java/util/Arrays", name := "copyOf", desc := "([II)[I" } : Jvm.MethodName)) ∈ ab_GW := ab_gw 840 (by decide +kernel) rfl
theorem w_841 : (Jvm.Cond.code ({ cls := "java/util/Arrays", name := "copyOf", desc := "([II)[I" } : Jvm.MethodName) prog_20_method_123_code (3 : Nat) (Option.some (Jvm.ClassFile.FieldType.array Jvm.ClassFile.FieldType.int))) ∈ ab_GW := ab_gw 841 (by decide +kernel) rfl
theorem w_849 : (Jvm.Cond.methodLink "java/util/Arrays" (304 : Nat) ({ cls := "java/lang/Math", name := "min", desc := "(II)I" } : Jvm.MethodName)) ∈ ab_GW := ab_gw 849 (by decide +kernel) rfl
theorem w_850 : (Jvm.Cond.methodLink "java/util/Arrays" (150 : Nat) ({ cls := "java/lang/System", name := "arraycopy", desc := "(Ljava/lang/Object;ILjava/lang/Object;II)V" } : Jvm.MethodName)) ∈ ab_GW := ab_gw 850 (by decide +kernel) rfl
theorem w_851 : (Jvm.Cond.methodLink "DominoKing$Reader" (72 : Nat) ({ cls := "DominoKing$Text", name := "<init>", desc := "(II[I[I)V" } : Jvm.MethodName)) ∈ ab_GW := ab_gw 851 (by decide +kernel) rfl
theorem w_852 : (Jvm.Cond.instanceMethod ({ cls := "DominoKing$Text", name := "<init>", desc := "(II[I[I)V" } : Jvm.MethodName)) ∈ ab_GW := ab_gw 852 (by decide +kernel) rfl
theorem w_853 : (Jvm.Cond.code ({ cls := "DominoKing$Text", name := "<init>", desc := "(II[I[I)V" } : Jvm.MethodName) prog_8_method_1_code (5 : Nat) (Option.none : Option Jvm.ClassFile.FieldType)) ∈ ab_GW := ab_gw 853 (by decide +kernel) rfl
theorem w_854 : (Jvm.Cond.methodLink "DominoKing$Text" (1 : Nat) ({ cls := "java/lang/Object", name := "<init>", desc := "()V" } : Jvm.MethodName)) ∈ ab_GW := ab_gw 854 (by decide +kernel) rfl
theorem w_855 : (Jvm.Cond.fieldLink "DominoKing$Text" (7 : Nat) "DominoKing$Text" "key" "I") ∈ ab_GW := ab_gw 855 (by decide +kernel) rfl
theorem w_856 : (Jvm.Cond.fieldLink "DominoKing$Table" (94 : Nat) "DominoKing$Text" "key" "I") ∈ ab_GW := ab_gw 856 (by decide +kernel) rfl
theorem w_857 : (Jvm.Cond.fieldLink "DominoKing" (234 : Nat) "DominoKing$Text" "key" "I") ∈ ab_GW := ab_gw 857 (by decide +kernel) rfl
theorem w_858 : (Jvm.Cond.fieldLink "DominoKing$Text" (13 : Nat) "DominoKing$Text" "operands" "I") ∈ ab_GW := ab_gw 858 (by decide +kernel) rfl
theorem w_859 : (Jvm.Cond.fieldLink "DominoKing" (237 : Nat) "DominoKing$Text" "operands" "I") ∈ ab_GW := ab_gw 859 (by decide +kernel) rfl
theorem w_860 : (Jvm.Cond.fieldLink "DominoKing$Text" (16 : Nat) "DominoKing$Text" "signs" "[I") ∈ ab_GW := ab_gw 860 (by decide +kernel) rfl
theorem w_861 : (Jvm.Cond.fieldLink "DominoKing$Text" (20 : Nat) "DominoKing$Text" "values" "[I") ∈ ab_GW := ab_gw 861 (by decide +kernel) rfl
theorem w_862 : (Jvm.Cond.fieldLink "DominoKing$Text" (23 : Nat) "DominoKing$Text" "stack" "[I") ∈ ab_GW := ab_gw 862 (by decide +kernel) rfl
theorem w_874 : (Jvm.Cond.methodLink "DominoKing" (227 : Nat) ({ cls := "DominoKing$Table", name := "addText", desc := "(LDominoKing$Text;)I" } : Jvm.MethodName)) ∈ ab_GW := ab_gw 874 (by decide +kernel) rfl
theorem w_875 : (Jvm.Cond.instanceMethod ({ cls := "DominoKing$Table", name := "addText", desc := "(LDominoKing$Text;)I" } : Jvm.MethodName)) ∈ ab_GW := ab_gw 875 (by decide +kernel) rfl
theorem w_876 : (Jvm.Cond.selects "DominoKing$Table" ({ cls := "DominoKing$Table", name := "addText", desc := "(LDominoKing$Text;)I" } : Jvm.MethodName) ({ cls := "DominoKing$Table", name := "addText", desc := "(LDominoKing$Text;)I" } : Jvm.MethodName)) ∈ ab_GW := ab_gw 876 (by decide +kernel) rfl
theorem w_877 : (Jvm.Cond.code ({ cls := "DominoKing$Table", name := "addText", desc := "(LDominoKing$Text;)I" } : Jvm.MethodName) prog_6_method_8_code (4 : Nat) (Option.some Jvm.ClassFile.FieldType.int)) ∈ ab_GW := ab_gw 877 (by decide +kernel) rfl
theorem w_878 : (Jvm.Cond.methodLink "DominoKingLaw" (129 : Nat) ({ cls := "DominoKing", name := "textTold", desc := "(II)I" } : Jvm.MethodName)) ∈ ab_GW := ab_gw 878 (by decide +kernel) rfl
theorem w_879 : (Jvm.Cond.instanceMethod ({ cls := "DominoKing", name := "textTold", desc := "(II)I" } : Jvm.MethodName)) ∈ ab_GW := ab_gw 879 (by decide +kernel) rfl
theorem w_880 : (Jvm.Cond.selects "DominoKing" ({ cls := "DominoKing", name := "textTold", desc := "(II)I" } : Jvm.MethodName) ({ cls := "DominoKing", name := "textTold", desc := "(II)I" } : Jvm.MethodName)) ∈ ab_GW := ab_gw 880 (by decide +kernel) rfl
theorem w_881 : (Jvm.Cond.code ({ cls := "DominoKing", name := "textTold", desc := "(II)I" } : Jvm.MethodName) prog_1_method_30_code (4 : Nat) (Option.some Jvm.ClassFile.FieldType.int)) ∈ ab_GW := ab_gw 881 (by decide +kernel) rfl
theorem w_882 : (Jvm.Cond.methodLink "DominoKing" (231 : Nat) ({ cls := "DominoKing$Table", name := "textAt", desc := "(I)LDominoKing$Text;" } : Jvm.MethodName)) ∈ ab_GW := ab_gw 882 (by decide +kernel) rfl
theorem w_883 : (Jvm.Cond.methodLink "DominoKingLaw" (133 : Nat) ({ cls := "DominoKing", name := "why", desc := "(I)I" } : Jvm.MethodName)) ∈ ab_GW := ab_gw 883 (by decide +kernel) rfl
theorem w_884 : (Jvm.Cond.instanceMethod ({ cls := "DominoKing", name := "why", desc := "(I)I" } : Jvm.MethodName)) ∈ ab_GW := ab_gw 884 (by decide +kernel) rfl
theorem w_885 : (Jvm.Cond.selects "DominoKing" ({ cls := "DominoKing", name := "why", desc := "(I)I" } : Jvm.MethodName) ({ cls := "DominoKing", name := "why", desc := "(I)I" } : Jvm.MethodName)) ∈ ab_GW := ab_gw 885 (by decide +kernel) rfl
theorem w_886 : (Jvm.Cond.code ({ cls := "DominoKing", name := "why", desc := "(I)I" } : Jvm.MethodName) prog_1_method_31_code (2 : Nat) (Option.some Jvm.ClassFile.FieldType.int)) ∈ ab_GW := ab_gw 886 (by decide +kernel) rfl
theorem w_887 : (Jvm.Cond.methodLink "DominoKingLaw" (137 : Nat) ({ cls := "DominoKing", name := "sheet", desc := "(III)I" } : Jvm.MethodName)) ∈ ab_GW := ab_gw 887 (by decide +kernel) rfl
theorem w_888 : (Jvm.Cond.instanceMethod ({ cls := "DominoKing", name := "sheet", desc := "(III)I" } : Jvm.MethodName)) ∈ ab_GW := ab_gw 888 (by decide +kernel) rfl
theorem w_889 : (Jvm.Cond.selects "DominoKing" ({ cls := "DominoKing", name := "sheet", desc := "(III)I" } : Jvm.MethodName) ({ cls := "DominoKing", name := "sheet", desc := "(III)I" } : Jvm.MethodName)) ∈ ab_GW := ab_gw 889 (by decide +kernel) rfl
theorem w_890 : (Jvm.Cond.code ({ cls := "DominoKing", name := "sheet", desc := "(III)I" } : Jvm.MethodName) prog_1_method_32_code (4 : Nat) (Option.some Jvm.ClassFile.FieldType.int)) ∈ ab_GW := ab_gw 890 (by decide +kernel) rfl
theorem w_891 : (Jvm.Cond.methodLink "DominoKing" (243 : Nat) ({ cls := "DominoKing$Sheet", name := "become", desc := "(II)V" } : Jvm.MethodName)) ∈ ab_GW := ab_gw 891 (by decide +kernel) rfl
theorem w_892 : (Jvm.Cond.instanceMethod ({ cls := "DominoKing$Sheet", name := "become", desc := "(II)V" } : Jvm.MethodName)) ∈ ab_GW := ab_gw 892 (by decide +kernel) rfl
theorem w_893 : (Jvm.Cond.selects "DominoKing$Sheet" ({ cls := "DominoKing$Sheet", name := "become", desc := "(II)V" } : Jvm.MethodName) ({ cls := "DominoKing$Sheet", name := "become", desc := "(II)V" } : Jvm.MethodName)) ∈ ab_GW := ab_gw 893 (by decide +kernel) rfl
theorem w_894 : (Jvm.Cond.code ({ cls := "DominoKing$Sheet", name := "become", desc := "(II)V" } : Jvm.MethodName) prog_4_method_3_code (3 : Nat) (Option.none : Option Jvm.ClassFile.FieldType)) ∈ ab_GW := ab_gw 894 (by decide +kernel) rfl
theorem w_895 : (Jvm.Cond.methodLink "DominoKing$Sheet" (22 : Nat) ({ cls := "java/util/Arrays", name := "fill", desc := "([II)V" } : Jvm.MethodName)) ∈ ab_GW := ab_gw 895 (by decide +kernel) rfl
theorem w_896 : (Jvm.Cond.constant "DominoKing" (246 : Nat) (-1000000014 : Int32)) ∈ ab_GW := ab_gw 896 (by decide +kernel) rfl
theorem w_897 : (Jvm.Cond.methodLink "DominoKingLaw" (141 : Nat) ({ cls := "DominoKing", name := "mark", desc := "(III)I" } : Jvm.MethodName)) ∈ ab_GW := ab_gw 897 (by decide +kernel) rfl
theorem w_898 : (Jvm.Cond.instanceMethod ({ cls := "DominoKing", name := "mark", desc := "(III)I" } : Jvm.MethodName)) ∈ ab_GW := ab_gw 898 (by decide +kernel) rfl
theorem w_899 : (Jvm.Cond.selects "DominoKing" ({ cls := "DominoKing", name := "mark", desc := "(III)I" } : Jvm.MethodName) ({ cls := "DominoKing", name := "mark", desc := "(III)I" } : Jvm.MethodName)) ∈ ab_GW := ab_gw 899 (by decide +kernel) rfl
theorem w_900 : (Jvm.Cond.code ({ cls := "DominoKing", name := "mark", desc := "(III)I" } : Jvm.MethodName) prog_1_method_33_code (5 : Nat) (Option.some Jvm.ClassFile.FieldType.int)) ∈ ab_GW := ab_gw 900 (by decide +kernel) rfl
theorem w_901 : (Jvm.Cond.constant "DominoKing" (248 : Nat) (-1000000013 : Int32)) ∈ ab_GW := ab_gw 901 (by decide +kernel) rfl
theorem w_902 : (Jvm.Cond.methodLink "DominoKing" (252 : Nat) ({ cls := "DominoKing$Sheet", name := "write", desc := "(II)I" } : Jvm.MethodName)) ∈ ab_GW := ab_gw 902 (by decide +kernel) rfl
theorem w_903 : (Jvm.Cond.instanceMethod ({ cls := "DominoKing$Sheet", name := "write", desc := "(II)I" } : Jvm.MethodName)) ∈ ab_GW := ab_gw 903 (by decide +kernel) rfl
theorem w_904 : (Jvm.Cond.selects "DominoKing$Sheet" ({ cls := "DominoKing$Sheet", name := "write", desc := "(II)I" } : Jvm.MethodName) ({ cls := "DominoKing$Sheet", name := "write", desc := "(II)I" } : Jvm.MethodName)) ∈ ab_GW := ab_gw 904 (by decide +kernel) rfl
theorem w_905 : (Jvm.Cond.code ({ cls := "DominoKing$Sheet", name := "write", desc := "(II)I" } : Jvm.MethodName) prog_4_method_5_code (3 : Nat) (Option.some Jvm.ClassFile.FieldType.int)) ∈ ab_GW := ab_gw 905 (by decide +kernel) rfl
theorem w_906 : (Jvm.Cond.constant "DominoKing" (255 : Nat) (-99999 : Int32)) ∈ ab_GW := ab_gw 906 (by decide +kernel) rfl
theorem w_907 : (Jvm.Cond.constant "DominoKing" (256 : Nat) (99999 : Int32)) ∈ ab_GW := ab_gw 907 (by decide +kernel) rfl
theorem w_908 : (Jvm.Cond.methodLink "DominoKingLaw" (145 : Nat) ({ cls := "DominoKing", name := "pour", desc := "(I)I" } : Jvm.MethodName)) ∈ ab_GW := ab_gw 908 (by decide +kernel) rfl
theorem w_909 : (Jvm.Cond.instanceMethod ({ cls := "DominoKing", name := "pour", desc := "(I)I" } : Jvm.MethodName)) ∈ ab_GW := ab_gw 909 (by decide +kernel) rfl
theorem w_910 : (Jvm.Cond.selects "DominoKing" ({ cls := "DominoKing", name := "pour", desc := "(I)I" } : Jvm.MethodName) ({ cls := "DominoKing", name := "pour", desc := "(I)I" } : Jvm.MethodName)) ∈ ab_GW := ab_gw 910 (by decide +kernel) rfl
theorem w_911 : (Jvm.Cond.code ({ cls := "DominoKing", name := "pour", desc := "(I)I" } : Jvm.MethodName) prog_1_method_34_code (6 : Nat) (Option.some Jvm.ClassFile.FieldType.int)) ∈ ab_GW := ab_gw 911 (by decide +kernel) rfl
theorem w_912 : (Jvm.Cond.methodLink "DominoKing" (257 : Nat) ({ cls := "DominoKing$Sheet", name := "isNumber", desc := "(I)Z" } : Jvm.MethodName)) ∈ ab_GW := ab_gw 912 (by decide +kernel) rfl
theorem w_913 : (Jvm.Cond.methodLink "DominoKing" (263 : Nat) ({ cls := "DominoKing", name := "clamp", desc := "(III)I" } : Jvm.MethodName)) ∈ ab_GW := ab_gw 913 (by decide +kernel) rfl
theorem w_914 : (Jvm.Cond.methodLink "DominoKingLaw" (149 : Nat) ({ cls := "DominoKing", name := "reads", desc := "(I)I" } : Jvm.MethodName)) ∈ ab_GW := ab_gw 914 (by decide +kernel) rfl
theorem w_915 : (Jvm.Cond.instanceMethod ({ cls := "DominoKing", name := "reads", desc := "(I)I" } : Jvm.MethodName)) ∈ ab_GW := ab_gw 915 (by decide +kernel) rfl
theorem w_916 : (Jvm.Cond.selects "DominoKing" ({ cls := "DominoKing", name := "reads", desc := "(I)I" } : Jvm.MethodName) ({ cls := "DominoKing", name := "reads", desc := "(I)I" } : Jvm.MethodName)) ∈ ab_GW := ab_gw 916 (by decide +kernel) rfl
theorem w_917 : (Jvm.Cond.code ({ cls := "DominoKing", name := "reads", desc := "(I)I" } : Jvm.MethodName) prog_1_method_35_code (4 : Nat) (Option.some Jvm.ClassFile.FieldType.int)) ∈ ab_GW := ab_gw 917 (by decide +kernel) rfl
theorem w_918 : (Jvm.Cond.methodLink "DominoKingLaw" (153 : Nat) ({ cls := "DominoKing", name := "copy", desc := "(IIIII)I" } : Jvm.MethodName)) ∈ ab_GW := ab_gw 918 (by decide +kernel) rfl
theorem w_919 : (Jvm.Cond.instanceMethod ({ cls := "DominoKing", name := "copy", desc := "(IIIII)I" } : Jvm.MethodName)) ∈ ab_GW := ab_gw 919 (by decide +kernel) rfl
theorem w_920 : (Jvm.Cond.selects "DominoKing" ({ cls := "DominoKing", name := "copy", desc := "(IIIII)I" } : Jvm.MethodName) ({ cls := "DominoKing", name := "copy", desc := "(IIIII)I" } : Jvm.MethodName)) ∈ ab_GW := ab_gw 920 (by decide +kernel) rfl
theorem w_921 : (Jvm.Cond.code ({ cls := "DominoKing", name := "copy", desc := "(IIIII)I" } : Jvm.MethodName) prog_1_method_36_code (8 : Nat) (Option.some Jvm.ClassFile.FieldType.int)) ∈ ab_GW := ab_gw 921 (by decide +kernel) rfl
theorem w_922 : (Jvm.Cond.methodLink "DominoKing" (266 : Nat) ({ cls := "DominoKing$Sheet", name := "hasPlaces", desc := "(II)Z" } : Jvm.MethodName)) ∈ ab_GW := ab_gw 922 (by decide +kernel) rfl
theorem w_923 : (Jvm.Cond.instanceMethod ({ cls := "DominoKing$Sheet", name := "hasPlaces", desc := "(II)Z" } : Jvm.MethodName)) ∈ ab_GW := ab_gw 923 (by decide +kernel) rfl
theorem w_924 : (Jvm.Cond.selects "DominoKing$Sheet" ({ cls := "DominoKing$Sheet", name := "hasPlaces", desc := "(II)Z" } : Jvm.MethodName) ({ cls := "DominoKing$Sheet", name := "hasPlaces", desc := "(II)Z" } : Jvm.MethodName)) ∈ ab_GW := ab_gw 924 (by decide +kernel) rfl
theorem w_925 : (Jvm.Cond.code ({ cls := "DominoKing$Sheet", name := "hasPlaces", desc := "(II)Z" } : Jvm.MethodName) prog_4_method_7_code (3 : Nat) (Option.some Jvm.ClassFile.FieldType.boolean)) ∈ ab_GW := ab_gw 925 (by decide +kernel) rfl
theorem w_926 : (Jvm.Cond.methodLink "DominoKing" (269 : Nat) ({ cls := "java/lang/System", name := "arraycopy", desc := "(Ljava/lang/Object;ILjava/lang/Object;II)V" } : Jvm.MethodName)) ∈ ab_GW := ab_gw 926 (by decide +kernel) rfl
theorem w_927 : (Jvm.Cond.methodLink "DominoKingLaw" (158 : Nat) ({ cls := "DominoKing", name := "lay", desc := "(III)I" } : Jvm.MethodName)) ∈ ab_GW := ab_gw 927 (by decide +kernel) rfl
theorem w_928 : (Jvm.Cond.instanceMethod ({ cls := "DominoKing", name := "lay", desc := "(III)I" } : Jvm.MethodName)) ∈ ab_GW := ab_gw 928 (by decide +kernel) rfl
theorem w_929 : (Jvm.Cond.selects "DominoKing" ({ cls := "DominoKing", name := "lay", desc := "(III)I" } : Jvm.MethodName) ({ cls := "DominoKing", name := "lay", desc := "(III)I" } : Jvm.MethodName)) ∈ ab_GW := ab_gw 929 (by decide +kernel) rfl
theorem w_930 : (Jvm.Cond.code ({ cls := "DominoKing", name := "lay", desc := "(III)I" } : Jvm.MethodName) prog_1_method_37_code (6 : Nat) (Option.some Jvm.ClassFile.FieldType.int)) ∈ ab_GW := ab_gw 930 (by decide +kernel) rfl
theorem w_931 : (Jvm.Cond.methodLink "DominoKing" (275 : Nat) ({ cls := "DominoKing", name := "isSlot", desc := "(I)Z" } : Jvm.MethodName)) ∈ ab_GW := ab_gw 931 (by decide +kernel) rfl
theorem w_932 : (Jvm.Cond.static ({ cls := "DominoKing", name := "isSlot", desc := "(I)Z" } : Jvm.MethodName)) ∈ ab_GW := ab_gw 932 (by decide +kernel) rfl
theorem w_933 : (Jvm.Cond.code ({ cls := "DominoKing", name := "isSlot", desc := "(I)Z" } : Jvm.MethodName) prog_1_method_49_code (1 : Nat) (Option.some Jvm.ClassFile.FieldType.boolean)) ∈ ab_GW := ab_gw 933 (by decide +kernel) rfl
theorem w_934 : (Jvm.Cond.methodLink "DominoKing" (281 : Nat) ({ cls := "DominoKing$Slot", name := "takeStone", desc := "(III)V" } : Jvm.MethodName)) ∈ ab_GW := ab_gw 934 (by decide +kernel) rfl
theorem w_935 : (Jvm.Cond.instanceMethod ({ cls := "DominoKing$Slot", name := "takeStone", desc := "(III)V" } : Jvm.MethodName)) ∈ ab_GW := ab_gw 935 (by decide +kernel) rfl
theorem w_936 : (Jvm.Cond.selects "DominoKing$Slot" ({ cls := "DominoKing$Slot", name := "takeStone", desc := "(III)V" } : Jvm.MethodName) ({ cls := "DominoKing$Slot", name := "takeStone", desc := "(III)V" } : Jvm.MethodName)) ∈ ab_GW := ab_gw 936 (by decide +kernel) rfl
theorem w_937 : (Jvm.Cond.code ({ cls := "DominoKing$Slot", name := "takeStone", desc := "(III)V" } : Jvm.MethodName) prog_5_method_2_code (4 : Nat) (Option.none : Option Jvm.ClassFile.FieldType)) ∈ ab_GW := ab_gw 937 (by decide +kernel) rfl
theorem w_938 : (Jvm.Cond.methodLink "DominoKing" (289 : Nat) ({ cls := "DominoKing$Sheet", name := "becomeLike", desc := "(LDominoKing$Sheet;)V" } : Jvm.MethodName)) ∈ ab_GW := ab_gw 938 (by decide +kernel) rfl
theorem w_939 : (Jvm.Cond.instanceMethod ({ cls := "DominoKing$Sheet", name := "becomeLike", desc := "(LDominoKing$Sheet;)V" } : Jvm.MethodName)) ∈ ab_GW := ab_gw 939 (by decide +kernel) rfl
theorem w_940 : (Jvm.Cond.selects "DominoKing$Sheet" ({ cls := "DominoKing$Sheet", name := "becomeLike", desc := "(LDominoKing$Sheet;)V" } : Jvm.MethodName) ({ cls := "DominoKing$Sheet", name := "becomeLike", desc := "(LDominoKing$Sheet;)V" } : Jvm.MethodName)) ∈ ab_GW := ab_gw 940 (by decide +kernel) rfl
theorem w_941 : (Jvm.Cond.code ({ cls := "DominoKing$Sheet", name := "becomeLike", desc := "(LDominoKing$Sheet;)V" } : Jvm.MethodName) prog_4_method_4_code (2 : Nat) (Option.none : Option Jvm.ClassFile.FieldType)) ∈ ab_GW := ab_gw 941 (by decide +kernel) rfl
theorem w_942 : (Jvm.Cond.methodLink "DominoKing$Sheet" (28 : Nat) ({ cls := "java/lang/System", name := "arraycopy", desc := "(Ljava/lang/Object;ILjava/lang/Object;II)V" } : Jvm.MethodName)) ∈ ab_GW := ab_gw 942 (by decide +kernel) rfl
theorem w_943 : (Jvm.Cond.methodLink "DominoKingLaw" (162 : Nat) ({ cls := "DominoKing", name := "ask", desc := "(II)I" } : Jvm.MethodName)) ∈ ab_GW := ab_gw 943 (by decide +kernel) rfl
theorem w_944 : (Jvm.Cond.instanceMethod ({ cls := "DominoKing", name := "ask", desc := "(II)I" } : Jvm.MethodName)) ∈ ab_GW := ab_gw 944 (by decide +kernel) rfl
theorem w_945 : (Jvm.Cond.selects "DominoKing" ({ cls := "DominoKing", name := "ask", desc := "(II)I" } : Jvm.MethodName) ({ cls := "DominoKing", name := "ask", desc := "(II)I" } : Jvm.MethodName)) ∈ ab_GW := ab_gw 945 (by decide +kernel) rfl
theorem w_946 : (Jvm.Cond.code ({ cls := "DominoKing", name := "ask", desc := "(II)I" } : Jvm.MethodName) prog_1_method_38_code (5 : Nat) (Option.some Jvm.ClassFile.FieldType.int)) ∈ ab_GW := ab_gw 946 (by decide +kernel) rfl
theorem w_947 : (Jvm.Cond.methodLink "DominoKing" (296 : Nat) ({ cls := "DominoKing", name := "lookFor", desc := "(II)I" } : Jvm.MethodName)) ∈ ab_GW := ab_gw 947 (by decide +kernel) rfl
theorem w_949 : (Jvm.Cond.instanceMethod ({ cls := "DominoKing", name := "lookFor", desc := "(II)I" } : Jvm.MethodName)) ∈ ab_GW := ab_gw 949 (by decide +kernel) rfl
theorem w_950 : (Jvm.Cond.code ({ cls := "DominoKing", name := "lookFor", desc := "(II)I" } : Jvm.MethodName) prog_1_method_53_code (3 : Nat) (Option.some Jvm.ClassFile.FieldType.int)) ∈ ab_GW := ab_gw 950 (by decide +kernel) rfl
theorem w_951 : (Jvm.Cond.methodLink "DominoKingLaw" (166 : Nat) ({ cls := "DominoKing", name := "item", desc := "(II)I" } : Jvm.MethodName)) ∈ ab_GW := ab_gw 951 (by decide +kernel) rfl
theorem w_952 : (Jvm.Cond.instanceMethod ({ cls := "DominoKing", name := "item", desc := "(II)I" } : Jvm.MethodName)) ∈ ab_GW := ab_gw 952 (by decide +kernel) rfl
theorem w_953 : (Jvm.Cond.selects "DominoKing" ({ cls := "DominoKing", name := "item", desc := "(II)I" } : Jvm.MethodName) ({ cls := "DominoKing", name := "item", desc := "(II)I" } : Jvm.MethodName)) ∈ ab_GW := ab_gw 953 (by decide +kernel) rfl
theorem w_954 : (Jvm.Cond.code ({ cls := "DominoKing", name := "item", desc := "(II)I" } : Jvm.MethodName) prog_1_method_39_code (5 : Nat) (Option.some Jvm.ClassFile.FieldType.int)) ∈ ab_GW := ab_gw 954 (by decide +kernel) rfl
theorem w_955 : (Jvm.Cond.methodLink "DominoKingLaw" (170 : Nat) ({ cls := "DominoKing", name := "rest", desc := "(II)I" } : Jvm.MethodName)) ∈ ab_GW := ab_gw 955 (by decide +kernel) rfl
theorem w_956 : (Jvm.Cond.instanceMethod ({ cls := "DominoKing", name := "rest", desc := "(II)I" } : Jvm.MethodName)) ∈ ab_GW := ab_gw 956 (by decide +kernel) rfl
theorem w_957 : (Jvm.Cond.selects "DominoKing" ({ cls := "DominoKing", name := "rest", desc := "(II)I" } : Jvm.MethodName) ({ cls := "DominoKing", name := "rest", desc := "(II)I" } : Jvm.MethodName)) ∈ ab_GW := ab_gw 957 (by decide +kernel) rfl
theorem w_958 : (Jvm.Cond.code ({ cls := "DominoKing", name := "rest", desc := "(II)I" } : Jvm.MethodName) prog_1_method_40_code (4 : Nat) (Option.some Jvm.ClassFile.FieldType.int)) ∈ ab_GW := ab_gw 958 (by decide +kernel) rfl
theorem w_959 : (Jvm.Cond.methodLink "DominoKingLaw" (174 : Nat) ({ cls := "DominoKing", name := "tell", desc := "(I)I" } : Jvm.MethodName)) ∈ ab_GW := ab_gw 959 (by decide +kernel) rfl
theorem w_960 : (Jvm.Cond.instanceMethod ({ cls := "DominoKing", name := "tell", desc := "(I)I" } : Jvm.MethodName)) ∈ ab_GW := ab_gw 960 (by decide +kernel) rfl
theorem w_961 : (Jvm.Cond.selects "DominoKing" ({ cls := "DominoKing", name := "tell", desc := "(I)I" } : Jvm.MethodName) ({ cls := "DominoKing", name := "tell", desc := "(I)I" } : Jvm.MethodName)) ∈ ab_GW := ab_gw 961 (by decide +kernel) rfl
theorem w_962 : (Jvm.Cond.code ({ cls := "DominoKing", name := "tell", desc := "(I)I" } : Jvm.MethodName) prog_1_method_41_code (2 : Nat) (Option.some Jvm.ClassFile.FieldType.int)) ∈ ab_GW := ab_gw 962 (by decide +kernel) rfl
theorem w_963 : (Jvm.Cond.methodLink "DominoKingLaw" (178 : Nat) ({ cls := "DominoKing", name := "check", desc := "(I)I" } : Jvm.MethodName)) ∈ ab_GW := ab_gw 963 (by decide +kernel) rfl
theorem w_964 : (Jvm.Cond.instanceMethod ({ cls := "DominoKing", name := "check", desc := "(I)I" } : Jvm.MethodName)) ∈ ab_GW := ab_gw 964 (by decide +kernel) rfl
theorem w_965 : (Jvm.Cond.selects "DominoKing" ({ cls := "DominoKing", name := "check", desc := "(I)I" } : Jvm.MethodName) ({ cls := "DominoKing", name := "check", desc := "(I)I" } : Jvm.MethodName)) ∈ ab_GW := ab_gw 965 (by decide +kernel) rfl
theorem w_966 : (Jvm.Cond.code ({ cls := "DominoKing", name := "check", desc := "(I)I" } : Jvm.MethodName) prog_1_method_42_code (4 : Nat) (Option.some Jvm.ClassFile.FieldType.int)) ∈ ab_GW := ab_gw 966 (by decide +kernel) rfl
theorem w_967 : (Jvm.Cond.methodLink "DominoKing" (315 : Nat) ({ cls := "DominoKing$Thoughts", name := "rightAhead", desc := "(LDominoKing$Table;I[II)I" } : Jvm.MethodName)) ∈ ab_GW := ab_gw 967 (by decide +kernel) rfl
theorem w_968 : (Jvm.Cond.instanceMethod ({ cls := "DominoKing$Thoughts", name := "rightAhead", desc := "(LDominoKing$Table;I[II)I" } : Jvm.MethodName)) ∈ ab_GW := ab_gw 968 (by decide +kernel) rfl
theorem w_969 : (Jvm.Cond.selects "DominoKing$Thoughts" ({ cls := "DominoKing$Thoughts", name := "rightAhead", desc := "(LDominoKing$Table;I[II)I" } : Jvm.MethodName) ({ cls := "DominoKing$Thoughts", name := "rightAhead", desc := "(LDominoKing$Table;I[II)I" } : Jvm.MethodName)) ∈ ab_GW := ab_gw 969 (by decide +kernel) rfl
theorem w_970 : (Jvm.Cond.code ({ cls := "DominoKing$Thoughts", name := "rightAhead", desc := "(LDominoKing$Table;I[II)I" } : Jvm.MethodName) prog_9_method_5_code (7 : Nat) (Option.some Jvm.ClassFile.FieldType.int)) ∈ ab_GW := ab_gw 970 (by decide +kernel) rfl
theorem w_971 : (Jvm.Cond.methodLink "DominoKing$Thoughts" (52 : Nat) ({ cls := "DominoKing$Table", name := "matches", desc := "()I" } : Jvm.MethodName)) ∈ ab_GW := ab_gw 971 (by decide +kernel) rfl
theorem w_972 : (Jvm.Cond.methodLink "DominoKingLaw" (182 : Nat) ({ cls := "DominoKing", name := "keep", desc := "()I" } : Jvm.MethodName)) ∈ ab_GW := ab_gw 972 (by decide +kernel) rfl
theorem w_973 : (Jvm.Cond.instanceMethod ({ cls := "DominoKing", name := "keep", desc := "()I" } : Jvm.MethodName)) ∈ ab_GW := ab_gw 973 (by decide +kernel) rfl
theorem w_974 : (Jvm.Cond.selects "DominoKing" ({ cls := "DominoKing", name := "keep", desc := "()I" } : Jvm.MethodName) ({ cls := "DominoKing", name := "keep", desc := "()I" } : Jvm.MethodName)) ∈ ab_GW := ab_gw 974 (by decide +kernel) rfl
theorem w_975 : (Jvm.Cond.code ({ cls := "DominoKing", name := "keep", desc := "()I" } : Jvm.MethodName) prog_1_method_43_code (1 : Nat) (Option.some Jvm.ClassFile.FieldType.int)) ∈ ab_GW := ab_gw 975 (by decide +kernel) rfl
theorem w_976 : (Jvm.Cond.methodLink "DominoKing" (319 : Nat) ({ cls := "DominoKing$Table", name := "become", desc := "(LDominoKing$Table;)V" } : Jvm.MethodName)) ∈ ab_GW := ab_gw 976 (by decide +kernel) rfl
theorem w_977 : (Jvm.Cond.methodLink "DominoKingLaw" (186 : Nat) ({ cls := "DominoKing", name := "back", desc := "()I" } : Jvm.MethodName)) ∈ ab_GW := ab_gw 977 (by decide +kernel) rfl
theorem w_978 : (Jvm.Cond.instanceMethod ({ cls := "DominoKing", name := "back", desc := "()I" } : Jvm.MethodName)) ∈ ab_GW := ab_gw 978 (by decide +kernel) rfl
theorem w_979 : (Jvm.Cond.selects "DominoKing" ({ cls := "DominoKing", name := "back", desc := "()I" } : Jvm.MethodName) ({ cls := "DominoKing", name := "back", desc := "()I" } : Jvm.MethodName)) ∈ ab_GW := ab_gw 979 (by decide +kernel) rfl
theorem w_980 : (Jvm.Cond.code ({ cls := "DominoKing", name := "back", desc := "()I" } : Jvm.MethodName) prog_1_method_44_code (1 : Nat) (Option.some Jvm.ClassFile.FieldType.int)) ∈ ab_GW := ab_gw 980 (by decide +kernel) rfl
theorem w_981 : (Jvm.Cond.methodLink "DominoKingLaw" (190 : Nat) ({ cls := "DominoKing", name := "count", desc := "(I)I" } : Jvm.MethodName)) ∈ ab_GW := ab_gw 981 (by decide +kernel) rfl
theorem w_982 : (Jvm.Cond.instanceMethod ({ cls := "DominoKing", name := "count", desc := "(I)I" } : Jvm.MethodName)) ∈ ab_GW := ab_gw 982 (by decide +kernel) rfl
theorem w_983 : (Jvm.Cond.selects "DominoKing" ({ cls := "DominoKing", name := "count", desc := "(I)I" } : Jvm.MethodName) ({ cls := "DominoKing", name := "count", desc := "(I)I" } : Jvm.MethodName)) ∈ ab_GW := ab_gw 983 (by decide +kernel) rfl
theorem w_984 : (Jvm.Cond.code ({ cls := "DominoKing", name := "count", desc := "(I)I" } : Jvm.MethodName) prog_1_method_45_code (2 : Nat) (Option.some Jvm.ClassFile.FieldType.int)) ∈ ab_GW := ab_gw 984 (by decide +kernel) rfl
theorem w_985 : (Jvm.Cond.classLink "DominoKingLaw" (10 : Nat) "DominoKingModel") ∈ ab_GW := ab_gw 985 (by decide +kernel) rfl
theorem w_986 : (Jvm.Cond.instantiable "DominoKingModel" (36 : Nat)) ∈ ab_GW := ab_gw 986 (by decide +kernel) rfl
theorem w_987 : (Jvm.Cond.methodLink "DominoKingLaw" (12 : Nat) ({ cls := "DominoKingModel", name := "<init>", desc := "()V" } : Jvm.MethodName)) ∈ ab_GW := ab_gw 987 (by decide +kernel) rfl
theorem w_988 : (Jvm.Cond.instanceMethod ({ cls := "DominoKingModel", name := "<init>", desc := "()V" } : Jvm.MethodName)) ∈ ab_GW := ab_gw 988 (by decide +kernel) rfl
theorem w_989 : (Jvm.Cond.code ({ cls := "DominoKingModel", name := "<init>", desc := "()V" } : Jvm.MethodName) prog_11_method_1_code (2 : Nat) (Option.none : Option Jvm.ClassFile.FieldType)) ∈ ab_GW := ab_gw 989 (by decide +kernel) rfl
theorem w_990 : (Jvm.Cond.methodLink "DominoKingModel" (1 : Nat) ({ cls := "java/lang/Object", name := "<init>", desc := "()V" } : Jvm.MethodName)) ∈ ab_GW := ab_gw 990 (by decide +kernel) rfl
theorem w_991 : (Jvm.Cond.fieldLink "DominoKingModel" (9 : Nat) "DominoKingModel" "now" "[I") ∈ ab_GW := ab_gw 991 (by decide +kernel) rfl
theorem w_992 : (Jvm.Cond.fieldLink "DominoKingModel" (13 : Nat) "DominoKingModel" "image" "[I") ∈ ab_GW := ab_gw 992 (by decide +kernel) rfl
theorem w_993 : (Jvm.Cond.fieldLink "DominoKingModel" (16 : Nat) "DominoKingModel" "aside" "[I") ∈ ab_GW := ab_gw 993 (by decide +kernel) rfl
theorem w_994 : (Jvm.Cond.fieldLink "DominoKingModel" (290 : Nat) "DominoKingModel" "hasImage" "Z") ∈ ab_GW := ab_gw 994 (by decide +kernel) rfl
theorem w_995 : (Jvm.Cond.fieldLink "DominoKingModel" (19 : Nat) "DominoKingModel" "away" "I") ∈ ab_GW := ab_gw 995 (by decide +kernel) rfl
theorem w_996 : (Jvm.Cond.fieldLink "DominoKingModel" (23 : Nat) "DominoKingModel" "leastOf" "[I") ∈ ab_GW := ab_gw 996 (by decide +kernel) rfl
theorem w_997 : (Jvm.Cond.fieldLink "DominoKingModel" (26 : Nat) "DominoKingModel" "cost" "[I") ∈ ab_GW := ab_gw 997 (by decide +kernel) rfl
theorem w_998 : (Jvm.Cond.fieldLink "DominoKingModel" (29 : Nat) "DominoKingModel" "before" "[I") ∈ ab_GW := ab_gw 998 (by decide +kernel) rfl
theorem w_999 : (Jvm.Cond.fieldLink "DominoKingModel" (32 : Nat) "DominoKingModel" "tape" "[I") ∈ ab_GW := ab_gw 999 (by decide +kernel) rfl
theorem w_1000 : (Jvm.Cond.fieldLink "DominoKingModel" (214 : Nat) "DominoKingModel" "taped" "I") ∈ ab_GW := ab_gw 1000 (by decide +kernel) rfl
theorem w_1001 : (Jvm.Cond.fieldLink "DominoKingModel" (217 : Nat) "DominoKingModel" "next" "I") ∈ ab_GW := ab_gw 1001 (by decide +kernel) rfl
theorem w_1002 : (Jvm.Cond.fieldLink "DominoKingModel" (220 : Nat) "DominoKingModel" "from" "I") ∈ ab_GW := ab_gw 1002 (by decide +kernel) rfl
theorem w_1003 : (Jvm.Cond.fieldLink "DominoKingModel" (226 : Nat) "DominoKingModel" "token" "I") ∈ ab_GW := ab_gw 1003 (by decide +kernel) rfl
theorem w_1004 : (Jvm.Cond.fieldLink "DominoKingModel" (232 : Nat) "DominoKingModel" "value" "I") ∈ ab_GW := ab_gw 1004 (by decide +kernel) rfl
theorem w_1005 : (Jvm.Cond.fieldLink "DominoKingModel" (223 : Nat) "DominoKingModel" "ended" "I") ∈ ab_GW := ab_gw 1005 (by decide +kernel) rfl
theorem w_1006 : (Jvm.Cond.fieldLink "DominoKingModel" (238 : Nat) "DominoKingModel" "key" "I") ∈ ab_GW := ab_gw 1006 (by decide +kernel) rfl
theorem w_1007 : (Jvm.Cond.fieldLink "DominoKingModel" (35 : Nat) "DominoKingModel" "keys" "[C") ∈ ab_GW := ab_gw 1007 (by decide +kernel) rfl
theorem w_1008 : (Jvm.Cond.fieldLink "DominoKingModel" (39 : Nat) "DominoKingModel" "keyAt" "[I") ∈ ab_GW := ab_gw 1008 (by decide +kernel) rfl
theorem w_1009 : (Jvm.Cond.fieldLink "DominoKingModel" (42 : Nat) "DominoKingModel" "code" "[I") ∈ ab_GW := ab_gw 1009 (by decide +kernel) rfl
theorem w_1010 : (Jvm.Cond.fieldLink "DominoKingModel" (250 : Nat) "DominoKingModel" "codes" "I") ∈ ab_GW := ab_gw 1010 (by decide +kernel) rfl
theorem w_1011 : (Jvm.Cond.fieldLink "DominoKingModel" (256 : Nat) "DominoKingModel" "atoms" "I") ∈ ab_GW := ab_gw 1011 (by decide +kernel) rfl
theorem w_1012 : (Jvm.Cond.fieldLink "DominoKingModel" (45 : Nat) "DominoKingModel" "waits" "[I") ∈ ab_GW := ab_gw 1012 (by decide +kernel) rfl
theorem w_1013 : (Jvm.Cond.fieldLink "DominoKingModel" (244 : Nat) "DominoKingModel" "held" "I") ∈ ab_GW := ab_gw 1013 (by decide +kernel) rfl
theorem w_1014 : (Jvm.Cond.fieldLink "DominoKingModel" (48 : Nat) "DominoKingModel" "tested" "[Z") ∈ ab_GW := ab_gw 1014 (by decide +kernel) rfl
theorem w_1015 : (Jvm.Cond.fieldLink "DominoKingModel" (52 : Nat) "DominoKingModel" "stack" "[I") ∈ ab_GW := ab_gw 1015 (by decide +kernel) rfl
theorem w_1016 : (Jvm.Cond.fieldLink "DominoKingModel" (55 : Nat) "DominoKingModel" "facts" "[I") ∈ ab_GW := ab_gw 1016 (by decide +kernel) rfl
theorem w_1017 : (Jvm.Cond.fieldLink "DominoKingModel" (58 : Nat) "DominoKingModel" "sorts" "[I") ∈ ab_GW := ab_gw 1017 (by decide +kernel) rfl
theorem w_1018 : (Jvm.Cond.fieldLink "DominoKingModel" (61 : Nat) "DominoKingModel" "sizes" "[I") ∈ ab_GW := ab_gw 1018 (by decide +kernel) rfl
theorem w_1019 : (Jvm.Cond.fieldLink "DominoKingModel" (64 : Nat) "DominoKingModel" "cells" "[I") ∈ ab_GW := ab_gw 1019 (by decide +kernel) rfl
theorem w_1020 : (Jvm.Cond.fieldLink "DominoKingModel" (67 : Nat) "DominoKingModel" "holds" "[I") ∈ ab_GW := ab_gw 1020 (by decide +kernel) rfl
theorem w_1021 : (Jvm.Cond.fieldLink "DominoKingModel" (70 : Nat) "DominoKingModel" "holdsA" "[I") ∈ ab_GW := ab_gw 1021 (by decide +kernel) rfl
theorem w_1022 : (Jvm.Cond.fieldLink "DominoKingModel" (73 : Nat) "DominoKingModel" "holdsB" "[I") ∈ ab_GW := ab_gw 1022 (by decide +kernel) rfl
theorem w_1023 : (Jvm.Cond.fieldLink "DominoKingModel" (76 : Nat) "DominoKingModel" "heldCells" "[I") ∈ ab_GW := ab_gw 1023 (by decide +kernel) rfl
theorem w_1024 : (Jvm.Cond.fieldLink "DominoKingModel" (79 : Nat) "DominoKingModel" "moved" "[I") ∈ ab_GW := ab_gw 1024 (by decide +kernel) rfl
theorem w_1025 : (Jvm.Cond.fieldLink "DominoKingModel" (82 : Nat) "DominoKingModel" "tells" "[I") ∈ ab_GW := ab_gw 1025 (by decide +kernel) rfl
theorem w_1026 : (Jvm.Cond.fieldLink "DominoKingModel" (287 : Nat) "DominoKingModel" "waiting" "I") ∈ ab_GW := ab_gw 1026 (by decide +kernel) rfl
theorem w_1100 : (Jvm.Cond.arrayClass Jvm.ClassFile.FieldType.char) ∈ ab_GW := ab_gw 1100 (by decide +kernel) rfl
theorem w_1101 : (Jvm.Cond.arrayClass Jvm.ClassFile.FieldType.boolean) ∈ ab_GW := ab_gw 1101 (by decide +kernel) rfl
theorem w_1102 : (Jvm.Cond.methodLink "DominoKingLaw" (17 : Nat) ({ cls := "DominoKingModel", name := "stone", desc := "(III)I" } : Jvm.MethodName)) ∈ ab_GW := ab_gw 1102 (by decide +kernel) rfl
theorem w_1103 : (Jvm.Cond.instanceMethod ({ cls := "DominoKingModel", name := "stone", desc := "(III)I" } : Jvm.MethodName)) ∈ ab_GW := ab_gw 1103 (by decide +kernel) rfl
theorem w_1104 : (Jvm.Cond.selects "DominoKingModel" ({ cls := "DominoKingModel", name := "stone", desc := "(III)I" } : Jvm.MethodName) ({ cls := "DominoKingModel", name := "stone", desc := "(III)I" } : Jvm.MethodName)) ∈ ab_GW := ab_gw 1104 (by decide +kernel) rfl
theorem w_1105 : (Jvm.Cond.code ({ cls := "DominoKingModel", name := "stone", desc := "(III)I" } : Jvm.MethodName) prog_11_method_12_code (4 : Nat) (Option.some Jvm.ClassFile.FieldType.int)) ∈ ab_GW := ab_gw 1105 (by decide +kernel) rfl
theorem w_1106 : (Jvm.Cond.methodLink "DominoKingModel" (86 : Nat) ({ cls := "DominoKingModel", name := "in", desc := "(III)Z" } : Jvm.MethodName)) ∈ ab_GW := ab_gw 1106 (by decide +kernel) rfl
theorem w_1107 : (Jvm.Cond.static ({ cls := "DominoKingModel", name := "in", desc := "(III)Z" } : Jvm.MethodName)) ∈ ab_GW := ab_gw 1107 (by decide +kernel) rfl
theorem w_1108 : (Jvm.Cond.code ({ cls := "DominoKingModel", name := "in", desc := "(III)Z" } : Jvm.MethodName) prog_11_method_2_code (3 : Nat) (Option.some Jvm.ClassFile.FieldType.boolean)) ∈ ab_GW := ab_gw 1108 (by decide +kernel) rfl
theorem w_1109 : (Jvm.Cond.constant "DominoKingModel" (90 : Nat) (-1000000001 : Int32)) ∈ ab_GW := ab_gw 1109 (by decide +kernel) rfl
theorem w_1110 : (Jvm.Cond.constant "DominoKingModel" (91 : Nat) (-1000000003 : Int32)) ∈ ab_GW := ab_gw 1110 (by decide +kernel) rfl
theorem w_1111 : (Jvm.Cond.methodLink "DominoKingModel" (92 : Nat) ({ cls := "DominoKingModel", name := "comes", desc := "(III)I" } : Jvm.MethodName)) ∈ ab_GW := ab_gw 1111 (by decide +kernel) rfl
theorem w_1113 : (Jvm.Cond.instanceMethod ({ cls := "DominoKingModel", name := "comes", desc := "(III)I" } : Jvm.MethodName)) ∈ ab_GW := ab_gw 1113 (by decide +kernel) rfl
theorem w_1114 : (Jvm.Cond.code ({ cls := "DominoKingModel", name := "comes", desc := "(III)I" } : Jvm.MethodName) prog_11_method_11_code (6 : Nat) (Option.some Jvm.ClassFile.FieldType.int)) ∈ ab_GW := ab_gw 1114 (by decide +kernel) rfl
theorem w_1115 : (Jvm.Cond.methodLink "DominoKingLaw" (22 : Nat) ({ cls := "DominoKingModel", name := "told", desc := "(II)I" } : Jvm.MethodName)) ∈ ab_GW := ab_gw 1115 (by decide +kernel) rfl
theorem w_1116 : (Jvm.Cond.instanceMethod ({ cls := "DominoKingModel", name := "told", desc := "(II)I" } : Jvm.MethodName)) ∈ ab_GW := ab_gw 1116 (by decide +kernel) rfl
theorem w_1117 : (Jvm.Cond.selects "DominoKingModel" ({ cls := "DominoKingModel", name := "told", desc := "(II)I" } : Jvm.MethodName) ({ cls := "DominoKingModel", name := "told", desc := "(II)I" } : Jvm.MethodName)) ∈ ab_GW := ab_gw 1117 (by decide +kernel) rfl
theorem w_1118 : (Jvm.Cond.code ({ cls := "DominoKingModel", name := "told", desc := "(II)I" } : Jvm.MethodName) prog_11_method_15_code (3 : Nat) (Option.some Jvm.ClassFile.FieldType.int)) ∈ ab_GW := ab_gw 1118 (by decide +kernel) rfl
theorem w_1119 : (Jvm.Cond.methodLink "DominoKingModel" (100 : Nat) ({ cls := "DominoKingModel", name := "isStone", desc := "(I)Z" } : Jvm.MethodName)) ∈ ab_GW := ab_gw 1119 (by decide +kernel) rfl
theorem w_1121 : (Jvm.Cond.instanceMethod ({ cls := "DominoKingModel", name := "isStone", desc := "(I)Z" } : Jvm.MethodName)) ∈ ab_GW := ab_gw 1121 (by decide +kernel) rfl
theorem w_1122 : (Jvm.Cond.code ({ cls := "DominoKingModel", name := "isStone", desc := "(I)Z" } : Jvm.MethodName) prog_11_method_7_code (2 : Nat) (Option.some Jvm.ClassFile.FieldType.boolean)) ∈ ab_GW := ab_gw 1122 (by decide +kernel) rfl
theorem w_1123 : (Jvm.Cond.methodLink "DominoKingModel" (96 : Nat) ({ cls := "DominoKingModel", name := "of", desc := "(II)I" } : Jvm.MethodName)) ∈ ab_GW := ab_gw 1123 (by decide +kernel) rfl
theorem w_1125 : (Jvm.Cond.instanceMethod ({ cls := "DominoKingModel", name := "of", desc := "(II)I" } : Jvm.MethodName)) ∈ ab_GW := ab_gw 1125 (by decide +kernel) rfl
theorem w_1126 : (Jvm.Cond.code ({ cls := "DominoKingModel", name := "of", desc := "(II)I" } : Jvm.MethodName) prog_11_method_9_code (3 : Nat) (Option.some Jvm.ClassFile.FieldType.int)) ∈ ab_GW := ab_gw 1126 (by decide +kernel) rfl
theorem w_1127 : (Jvm.Cond.methodLink "DominoKingModel" (104 : Nat) ({ cls := "DominoKingModel", name := "heavyOf", desc := "(I)I" } : Jvm.MethodName)) ∈ ab_GW := ab_gw 1127 (by decide +kernel) rfl
theorem w_1129 : (Jvm.Cond.instanceMethod ({ cls := "DominoKingModel", name := "heavyOf", desc := "(I)I" } : Jvm.MethodName)) ∈ ab_GW := ab_gw 1129 (by decide +kernel) rfl
theorem w_1130 : (Jvm.Cond.code ({ cls := "DominoKingModel", name := "heavyOf", desc := "(I)I" } : Jvm.MethodName) prog_11_method_13_code (3 : Nat) (Option.some Jvm.ClassFile.FieldType.int)) ∈ ab_GW := ab_gw 1130 (by decide +kernel) rfl
theorem w_1131 : (Jvm.Cond.methodLink "DominoKingModel" (108 : Nat) ({ cls := "DominoKingModel", name := "worthOf", desc := "(I)I" } : Jvm.MethodName)) ∈ ab_GW := ab_gw 1131 (by decide +kernel) rfl
theorem w_1133 : (Jvm.Cond.instanceMethod ({ cls := "DominoKingModel", name := "worthOf", desc := "(I)I" } : Jvm.MethodName)) ∈ ab_GW := ab_gw 1133 (by decide +kernel) rfl
theorem w_1134 : (Jvm.Cond.code ({ cls := "DominoKingModel", name := "worthOf", desc := "(I)I" } : Jvm.MethodName) prog_11_method_14_code (3 : Nat) (Option.some Jvm.ClassFile.FieldType.int)) ∈ ab_GW := ab_gw 1134 (by decide +kernel) rfl
theorem w_1135 : (Jvm.Cond.methodLink "DominoKingLaw" (26 : Nat) ({ cls := "DominoKingModel", name := "off", desc := "(III)I" } : Jvm.MethodName)) ∈ ab_GW := ab_gw 1135 (by decide +kernel) rfl
theorem w_1136 : (Jvm.Cond.instanceMethod ({ cls := "DominoKingModel", name := "off", desc := "(III)I" } : Jvm.MethodName)) ∈ ab_GW := ab_gw 1136 (by decide +kernel) rfl
theorem w_1137 : (Jvm.Cond.selects "DominoKingModel" ({ cls := "DominoKingModel", name := "off", desc := "(III)I" } : Jvm.MethodName) ({ cls := "DominoKingModel", name := "off", desc := "(III)I" } : Jvm.MethodName)) ∈ ab_GW := ab_gw 1137 (by decide +kernel) rfl
theorem w_1138 : (Jvm.Cond.code ({ cls := "DominoKingModel", name := "off", desc := "(III)I" } : Jvm.MethodName) prog_11_method_19_code (4 : Nat) (Option.some Jvm.ClassFile.FieldType.int)) ∈ ab_GW := ab_gw 1138 (by decide +kernel) rfl
theorem w_1139 : (Jvm.Cond.methodLink "DominoKingModel" (129 : Nat) ({ cls := "DominoKingModel", name := "isPlace", desc := "(I)Z" } : Jvm.MethodName)) ∈ ab_GW := ab_gw 1139 (by decide +kernel) rfl
theorem w_1140 : (Jvm.Cond.static ({ cls := "DominoKingModel", name := "isPlace", desc := "(I)Z" } : Jvm.MethodName)) ∈ ab_GW := ab_gw 1140 (by decide +kernel) rfl
theorem w_1141 : (Jvm.Cond.code ({ cls := "DominoKingModel", name := "isPlace", desc := "(I)Z" } : Jvm.MethodName) prog_11_method_8_code (1 : Nat) (Option.some Jvm.ClassFile.FieldType.boolean)) ∈ ab_GW := ab_gw 1141 (by decide +kernel) rfl
theorem w_1142 : (Jvm.Cond.methodLink "DominoKingModel" (132 : Nat) ({ cls := "DominoKingModel", name := "offOf", desc := "(III)I" } : Jvm.MethodName)) ∈ ab_GW := ab_gw 1142 (by decide +kernel) rfl
theorem w_1144 : (Jvm.Cond.instanceMethod ({ cls := "DominoKingModel", name := "offOf", desc := "(III)I" } : Jvm.MethodName)) ∈ ab_GW := ab_gw 1144 (by decide +kernel) rfl
theorem w_1145 : (Jvm.Cond.code ({ cls := "DominoKingModel", name := "offOf", desc := "(III)I" } : Jvm.MethodName) prog_11_method_18_code (6 : Nat) (Option.some Jvm.ClassFile.FieldType.int)) ∈ ab_GW := ab_gw 1145 (by decide +kernel) rfl
theorem w_1146 : (Jvm.Cond.methodLink "DominoKingModel" (120 : Nat) ({ cls := "DominoKingModel", name := "spotsOf", desc := "(III)I" } : Jvm.MethodName)) ∈ ab_GW := ab_gw 1146 (by decide +kernel) rfl
theorem w_1148 : (Jvm.Cond.instanceMethod ({ cls := "DominoKingModel", name := "spotsOf", desc := "(III)I" } : Jvm.MethodName)) ∈ ab_GW := ab_gw 1148 (by decide +kernel) rfl
theorem w_1149 : (Jvm.Cond.code ({ cls := "DominoKingModel", name := "spotsOf", desc := "(III)I" } : Jvm.MethodName) prog_11_method_16_code (4 : Nat) (Option.some Jvm.ClassFile.FieldType.int)) ∈ ab_GW := ab_gw 1149 (by decide +kernel) rfl
theorem w_1150 : (Jvm.Cond.methodLink "DominoKingModel" (123 : Nat) ({ cls := "DominoKingModel", name := "darkOf", desc := "(III)I" } : Jvm.MethodName)) ∈ ab_GW := ab_gw 1150 (by decide +kernel) rfl
theorem w_1152 : (Jvm.Cond.instanceMethod ({ cls := "DominoKingModel", name := "darkOf", desc := "(III)I" } : Jvm.MethodName)) ∈ ab_GW := ab_gw 1152 (by decide +kernel) rfl
theorem w_1153 : (Jvm.Cond.code ({ cls := "DominoKingModel", name := "darkOf", desc := "(III)I" } : Jvm.MethodName) prog_11_method_17_code (6 : Nat) (Option.some Jvm.ClassFile.FieldType.int)) ∈ ab_GW := ab_gw 1153 (by decide +kernel) rfl
theorem w_1154 : (Jvm.Cond.methodLink "DominoKingModel" (111 : Nat) ({ cls := "DominoKingModel", name := "counts", desc := "(I)I" } : Jvm.MethodName)) ∈ ab_GW := ab_gw 1154 (by decide +kernel) rfl
theorem w_1156 : (Jvm.Cond.instanceMethod ({ cls := "DominoKingModel", name := "counts", desc := "(I)I" } : Jvm.MethodName)) ∈ ab_GW := ab_gw 1156 (by decide +kernel) rfl
theorem w_1157 : (Jvm.Cond.code ({ cls := "DominoKingModel", name := "counts", desc := "(I)I" } : Jvm.MethodName) prog_11_method_76_code (3 : Nat) (Option.some Jvm.ClassFile.FieldType.int)) ∈ ab_GW := ab_gw 1157 (by decide +kernel) rfl
theorem w_1158 : (Jvm.Cond.methodLink "DominoKingModel" (114 : Nat) ({ cls := "DominoKingModel", name := "worksOut", desc := "(I)I" } : Jvm.MethodName)) ∈ ab_GW := ab_gw 1158 (by decide +kernel) rfl
theorem w_1160 : (Jvm.Cond.instanceMethod ({ cls := "DominoKingModel", name := "worksOut", desc := "(I)I" } : Jvm.MethodName)) ∈ ab_GW := ab_gw 1160 (by decide +kernel) rfl
