theorem dgX9_init_0 : decode cX9_init 0 = .ok (.aload_n 0, 1) ∧ decode cX9_init 1 = .ok (.invokespecial 1, 3) ∧ decode cX9_init 4 = .ok (.aload_n 0, 1) ∧ decode cX9_init 5 = .ok (.sipush 1461, 3) ∧ decode cX9_init 8 = .ok (.newarray .int, 2) ∧ decode cX9_init 10 = .ok (.putfield 9, 3) ∧ decode cX9_init 13 = .ok (.aload_n 0, 1) ∧ decode cX9_init 14 = .ok (.sipush 1461, 3) ∧ decode cX9_init 17 = .ok (.newarray .int, 2) ∧ decode cX9_init 19 = .ok (.putfield 13, 3) ∧ decode cX9_init 22 = .ok (.aload_n 0, 1) ∧ decode cX9_init 23 = .ok (.sipush 1461, 3) ∧ decode cX9_init 26 = .ok (.newarray .int, 2) ∧ decode cX9_init 28 = .ok (.putfield 16, 3) ∧ decode cX9_init 31 = .ok (.aload_n 0, 1) ∧ decode cX9_init 32 = .ok (.iconst (-1), 1) := by decide +kernel
theorem dX9_init_0 : decode cX9_init 0 = .ok (.aload_n 0, 1) := dgX9_init_0.1
theorem dX9_init_1 : decode cX9_init 1 = .ok (.invokespecial 1, 3) := dgX9_init_0.2.1
theorem dX9_init_4 : decode cX9_init 4 = .ok (.aload_n 0, 1) := dgX9_init_0.2.2.1
theorem dX9_init_5 : decode cX9_init 5 = .ok (.sipush 1461, 3) := dgX9_init_0.2.2.2.1
theorem dX9_init_8 : decode cX9_init 8 = .ok (.newarray .int, 2) := dgX9_init_0.2.2.2.2.1
theorem dX9_init_10 : decode cX9_init 10 = .ok (.putfield 9, 3) := dgX9_init_0.2.2.2.2.2.1
theorem dX9_init_13 : decode cX9_init 13 = .ok (.aload_n 0, 1) := dgX9_init_0.2.2.2.2.2.2.1
theorem dX9_init_14 : decode cX9_init 14 = .ok (.sipush 1461, 3) := dgX9_init_0.2.2.2.2.2.2.2.1
theorem dX9_init_17 : decode cX9_init 17 = .ok (.newarray .int, 2) := dgX9_init_0.2.2.2.2.2.2.2.2.1
theorem dX9_init_19 : decode cX9_init 19 = .ok (.putfield 13, 3) := dgX9_init_0.2.2.2.2.2.2.2.2.2.1
theorem dX9_init_22 : decode cX9_init 22 = .ok (.aload_n 0, 1) := dgX9_init_0.2.2.2.2.2.2.2.2.2.2.1
theorem dX9_init_23 : decode cX9_init 23 = .ok (.sipush 1461, 3) := dgX9_init_0.2.2.2.2.2.2.2.2.2.2.2.1
theorem dX9_init_26 : decode cX9_init 26 = .ok (.newarray .int, 2) := dgX9_init_0.2.2.2.2.2.2.2.2.2.2.2.2.1
theorem dX9_init_28 : decode cX9_init 28 = .ok (.putfield 16, 3) := dgX9_init_0.2.2.2.2.2.2.2.2.2.2.2.2.2.1
theorem dX9_init_31 : decode cX9_init 31 = .ok (.aload_n 0, 1) := dgX9_init_0.2.2.2.2.2.2.2.2.2.2.2.2.2.2.1
theorem dX9_init_32 : decode cX9_init 32 = .ok (.iconst (-1), 1) := dgX9_init_0.2.2.2.2.2.2.2.2.2.2.2.2.2.2.2
theorem dgX9_init_1 : decode cX9_init 33 = .ok (.putfield 19, 3) ∧ decode cX9_init 36 = .ok (.aload_n 0, 1) ∧ decode cX9_init 37 = .ok (.sipush 4096, 3) ∧ decode cX9_init 40 = .ok (.newarray .int, 2) ∧ decode cX9_init 42 = .ok (.putfield 23, 3) ∧ decode cX9_init 45 = .ok (.aload_n 0, 1) ∧ decode cX9_init 46 = .ok (.sipush 144, 3) ∧ decode cX9_init 49 = .ok (.newarray .int, 2) ∧ decode cX9_init 51 = .ok (.putfield 26, 3) ∧ decode cX9_init 54 = .ok (.aload_n 0, 1) ∧ decode cX9_init 55 = .ok (.bipush 89, 2) ∧ decode cX9_init 57 = .ok (.newarray .int, 2) ∧ decode cX9_init 59 = .ok (.putfield 29, 3) ∧ decode cX9_init 62 = .ok (.aload_n 0, 1) ∧ decode cX9_init 63 = .ok (.bipush 96, 2) ∧ decode cX9_init 65 = .ok (.newarray .int, 2) := by decide +kernel
theorem dX9_init_33 : decode cX9_init 33 = .ok (.putfield 19, 3) := dgX9_init_1.1
theorem dX9_init_36 : decode cX9_init 36 = .ok (.aload_n 0, 1) := dgX9_init_1.2.1
theorem dX9_init_37 : decode cX9_init 37 = .ok (.sipush 4096, 3) := dgX9_init_1.2.2.1
theorem dX9_init_40 : decode cX9_init 40 = .ok (.newarray .int, 2) := dgX9_init_1.2.2.2.1
theorem dX9_init_42 : decode cX9_init 42 = .ok (.putfield 23, 3) := dgX9_init_1.2.2.2.2.1
theorem dX9_init_45 : decode cX9_init 45 = .ok (.aload_n 0, 1) := dgX9_init_1.2.2.2.2.2.1
theorem dX9_init_46 : decode cX9_init 46 = .ok (.sipush 144, 3) := dgX9_init_1.2.2.2.2.2.2.1
theorem dX9_init_49 : decode cX9_init 49 = .ok (.newarray .int, 2) := dgX9_init_1.2.2.2.2.2.2.2.1
theorem dX9_init_51 : decode cX9_init 51 = .ok (.putfield 26, 3) := dgX9_init_1.2.2.2.2.2.2.2.2.1
theorem dX9_init_54 : decode cX9_init 54 = .ok (.aload_n 0, 1) := dgX9_init_1.2.2.2.2.2.2.2.2.2.1
theorem dX9_init_55 : decode cX9_init 55 = .ok (.bipush 89, 2) := dgX9_init_1.2.2.2.2.2.2.2.2.2.2.1
theorem dX9_init_57 : decode cX9_init 57 = .ok (.newarray .int, 2) := dgX9_init_1.2.2.2.2.2.2.2.2.2.2.2.1
theorem dX9_init_59 : decode cX9_init 59 = .ok (.putfield 29, 3) := dgX9_init_1.2.2.2.2.2.2.2.2.2.2.2.2.1
theorem dX9_init_62 : decode cX9_init 62 = .ok (.aload_n 0, 1) := dgX9_init_1.2.2.2.2.2.2.2.2.2.2.2.2.2.1
theorem dX9_init_63 : decode cX9_init 63 = .ok (.bipush 96, 2) := dgX9_init_1.2.2.2.2.2.2.2.2.2.2.2.2.2.2.1
theorem dX9_init_65 : decode cX9_init 65 = .ok (.newarray .int, 2) := dgX9_init_1.2.2.2.2.2.2.2.2.2.2.2.2.2.2.2
theorem dgX9_init_2 : decode cX9_init 67 = .ok (.putfield 32, 3) ∧ decode cX9_init 70 = .ok (.aload_n 0, 1) ∧ decode cX9_init 71 = .ok (.bipush 11, 2) ∧ decode cX9_init 73 = .ok (.newarray .char, 2) ∧ decode cX9_init 75 = .ok (.dup, 1) ∧ decode cX9_init 76 = .ok (.iconst 0, 1) ∧ decode cX9_init 77 = .ok (.bipush 100, 2) ∧ decode cX9_init 79 = .ok (.castore, 1) ∧ decode cX9_init 80 = .ok (.dup, 1) ∧ decode cX9_init 81 = .ok (.iconst 1, 1) ∧ decode cX9_init 82 = .ok (.bipush 97, 2) ∧ decode cX9_init 84 = .ok (.castore, 1) ∧ decode cX9_init 85 = .ok (.dup, 1) ∧ decode cX9_init 86 = .ok (.iconst 2, 1) ∧ decode cX9_init 87 = .ok (.bipush 114, 2) ∧ decode cX9_init 89 = .ok (.castore, 1) := by decide +kernel
theorem dX9_init_67 : decode cX9_init 67 = .ok (.putfield 32, 3) := dgX9_init_2.1
theorem dX9_init_70 : decode cX9_init 70 = .ok (.aload_n 0, 1) := dgX9_init_2.2.1
theorem dX9_init_71 : decode cX9_init 71 = .ok (.bipush 11, 2) := dgX9_init_2.2.2.1
theorem dX9_init_73 : decode cX9_init 73 = .ok (.newarray .char, 2) := dgX9_init_2.2.2.2.1
theorem dX9_init_75 : decode cX9_init 75 = .ok (.dup, 1) := dgX9_init_2.2.2.2.2.1
theorem dX9_init_76 : decode cX9_init 76 = .ok (.iconst 0, 1) := dgX9_init_2.2.2.2.2.2.1
theorem dX9_init_77 : decode cX9_init 77 = .ok (.bipush 100, 2) := dgX9_init_2.2.2.2.2.2.2.1
theorem dX9_init_79 : decode cX9_init 79 = .ok (.castore, 1) := dgX9_init_2.2.2.2.2.2.2.2.1
theorem dX9_init_80 : decode cX9_init 80 = .ok (.dup, 1) := dgX9_init_2.2.2.2.2.2.2.2.2.1
theorem dX9_init_81 : decode cX9_init 81 = .ok (.iconst 1, 1) := dgX9_init_2.2.2.2.2.2.2.2.2.2.1
theorem dX9_init_82 : decode cX9_init 82 = .ok (.bipush 97, 2) := dgX9_init_2.2.2.2.2.2.2.2.2.2.2.1
theorem dX9_init_84 : decode cX9_init 84 = .ok (.castore, 1) := dgX9_init_2.2.2.2.2.2.2.2.2.2.2.2.1
theorem dX9_init_85 : decode cX9_init 85 = .ok (.dup, 1) := dgX9_init_2.2.2.2.2.2.2.2.2.2.2.2.2.1
theorem dX9_init_86 : decode cX9_init 86 = .ok (.iconst 2, 1) := dgX9_init_2.2.2.2.2.2.2.2.2.2.2.2.2.2.1
theorem dX9_init_87 : decode cX9_init 87 = .ok (.bipush 114, 2) := dgX9_init_2.2.2.2.2.2.2.2.2.2.2.2.2.2.2.1
theorem dX9_init_89 : decode cX9_init 89 = .ok (.castore, 1) := dgX9_init_2.2.2.2.2.2.2.2.2.2.2.2.2.2.2.2
theorem dgX9_init_3 : decode cX9_init 90 = .ok (.dup, 1) ∧ decode cX9_init 91 = .ok (.iconst 3, 1) ∧ decode cX9_init 92 = .ok (.bipush 107, 2) ∧ decode cX9_init 94 = .ok (.castore, 1) ∧ decode cX9_init 95 = .ok (.dup, 1) ∧ decode cX9_init 96 = .ok (.iconst 4, 1) ∧ decode cX9_init 97 = .ok (.bipush 102, 2) ∧ decode cX9_init 99 = .ok (.castore, 1) ∧ decode cX9_init 100 = .ok (.dup, 1) ∧ decode cX9_init 101 = .ok (.iconst 5, 1) ∧ decode cX9_init 102 = .ok (.bipush 101, 2) ∧ decode cX9_init 104 = .ok (.castore, 1) ∧ decode cX9_init 105 = .ok (.dup, 1) ∧ decode cX9_init 106 = .ok (.bipush 6, 2) ∧ decode cX9_init 108 = .ok (.bipush 101, 2) ∧ decode cX9_init 110 = .ok (.castore, 1) := by decide +kernel
theorem dX9_init_90 : decode cX9_init 90 = .ok (.dup, 1) := dgX9_init_3.1
theorem dX9_init_91 : decode cX9_init 91 = .ok (.iconst 3, 1) := dgX9_init_3.2.1
theorem dX9_init_92 : decode cX9_init 92 = .ok (.bipush 107, 2) := dgX9_init_3.2.2.1
theorem dX9_init_94 : decode cX9_init 94 = .ok (.castore, 1) := dgX9_init_3.2.2.2.1
theorem dX9_init_95 : decode cX9_init 95 = .ok (.dup, 1) := dgX9_init_3.2.2.2.2.1
theorem dX9_init_96 : decode cX9_init 96 = .ok (.iconst 4, 1) := dgX9_init_3.2.2.2.2.2.1
theorem dX9_init_97 : decode cX9_init 97 = .ok (.bipush 102, 2) := dgX9_init_3.2.2.2.2.2.2.1
theorem dX9_init_99 : decode cX9_init 99 = .ok (.castore, 1) := dgX9_init_3.2.2.2.2.2.2.2.1
theorem dX9_init_100 : decode cX9_init 100 = .ok (.dup, 1) := dgX9_init_3.2.2.2.2.2.2.2.2.1
theorem dX9_init_101 : decode cX9_init 101 = .ok (.iconst 5, 1) := dgX9_init_3.2.2.2.2.2.2.2.2.2.1
theorem dX9_init_102 : decode cX9_init 102 = .ok (.bipush 101, 2) := dgX9_init_3.2.2.2.2.2.2.2.2.2.2.1
theorem dX9_init_104 : decode cX9_init 104 = .ok (.castore, 1) := dgX9_init_3.2.2.2.2.2.2.2.2.2.2.2.1
theorem dX9_init_105 : decode cX9_init 105 = .ok (.dup, 1) := dgX9_init_3.2.2.2.2.2.2.2.2.2.2.2.2.1
theorem dX9_init_106 : decode cX9_init 106 = .ok (.bipush 6, 2) := dgX9_init_3.2.2.2.2.2.2.2.2.2.2.2.2.2.1
theorem dX9_init_108 : decode cX9_init 108 = .ok (.bipush 101, 2) := dgX9_init_3.2.2.2.2.2.2.2.2.2.2.2.2.2.2.1
theorem dX9_init_110 : decode cX9_init 110 = .ok (.castore, 1) := dgX9_init_3.2.2.2.2.2.2.2.2.2.2.2.2.2.2.2
theorem dgX9_init_4 : decode cX9_init 111 = .ok (.dup, 1) ∧ decode cX9_init 112 = .ok (.bipush 7, 2) ∧ decode cX9_init 114 = .ok (.bipush 102, 2) ∧ decode cX9_init 116 = .ok (.castore, 1) ∧ decode cX9_init 117 = .ok (.dup, 1) ∧ decode cX9_init 118 = .ok (.bipush 8, 2) ∧ decode cX9_init 120 = .ok (.bipush 105, 2) ∧ decode cX9_init 122 = .ok (.castore, 1) ∧ decode cX9_init 123 = .ok (.dup, 1) ∧ decode cX9_init 124 = .ok (.bipush 9, 2) ∧ decode cX9_init 126 = .ok (.bipush 110, 2) ∧ decode cX9_init 128 = .ok (.castore, 1) ∧ decode cX9_init 129 = .ok (.dup, 1) ∧ decode cX9_init 130 = .ok (.bipush 10, 2) ∧ decode cX9_init 132 = .ok (.bipush 101, 2) ∧ decode cX9_init 134 = .ok (.castore, 1) := by decide +kernel
theorem dX9_init_111 : decode cX9_init 111 = .ok (.dup, 1) := dgX9_init_4.1
theorem dX9_init_112 : decode cX9_init 112 = .ok (.bipush 7, 2) := dgX9_init_4.2.1
theorem dX9_init_114 : decode cX9_init 114 = .ok (.bipush 102, 2) := dgX9_init_4.2.2.1
theorem dX9_init_116 : decode cX9_init 116 = .ok (.castore, 1) := dgX9_init_4.2.2.2.1
theorem dX9_init_117 : decode cX9_init 117 = .ok (.dup, 1) := dgX9_init_4.2.2.2.2.1
theorem dX9_init_118 : decode cX9_init 118 = .ok (.bipush 8, 2) := dgX9_init_4.2.2.2.2.2.1
theorem dX9_init_120 : decode cX9_init 120 = .ok (.bipush 105, 2) := dgX9_init_4.2.2.2.2.2.2.1
theorem dX9_init_122 : decode cX9_init 122 = .ok (.castore, 1) := dgX9_init_4.2.2.2.2.2.2.2.1
theorem dX9_init_123 : decode cX9_init 123 = .ok (.dup, 1) := dgX9_init_4.2.2.2.2.2.2.2.2.1
theorem dX9_init_124 : decode cX9_init 124 = .ok (.bipush 9, 2) := dgX9_init_4.2.2.2.2.2.2.2.2.2.1
theorem dX9_init_126 : decode cX9_init 126 = .ok (.bipush 110, 2) := dgX9_init_4.2.2.2.2.2.2.2.2.2.2.1
theorem dX9_init_128 : decode cX9_init 128 = .ok (.castore, 1) := dgX9_init_4.2.2.2.2.2.2.2.2.2.2.2.1
theorem dX9_init_129 : decode cX9_init 129 = .ok (.dup, 1) := dgX9_init_4.2.2.2.2.2.2.2.2.2.2.2.2.1
theorem dX9_init_130 : decode cX9_init 130 = .ok (.bipush 10, 2) := dgX9_init_4.2.2.2.2.2.2.2.2.2.2.2.2.2.1
theorem dX9_init_132 : decode cX9_init 132 = .ok (.bipush 101, 2) := dgX9_init_4.2.2.2.2.2.2.2.2.2.2.2.2.2.2.1
theorem dX9_init_134 : decode cX9_init 134 = .ok (.castore, 1) := dgX9_init_4.2.2.2.2.2.2.2.2.2.2.2.2.2.2.2
theorem dgX9_init_5 : decode cX9_init 135 = .ok (.putfield 35, 3) ∧ decode cX9_init 138 = .ok (.aload_n 0, 1) ∧ decode cX9_init 139 = .ok (.iconst 4, 1) ∧ decode cX9_init 140 = .ok (.newarray .int, 2) ∧ decode cX9_init 142 = .ok (.dup, 1) ∧ decode cX9_init 143 = .ok (.iconst 0, 1) ∧ decode cX9_init 144 = .ok (.iconst 0, 1) ∧ decode cX9_init 145 = .ok (.iastore, 1) ∧ decode cX9_init 146 = .ok (.dup, 1) ∧ decode cX9_init 147 = .ok (.iconst 1, 1) ∧ decode cX9_init 148 = .ok (.iconst 4, 1) ∧ decode cX9_init 149 = .ok (.iastore, 1) ∧ decode cX9_init 150 = .ok (.dup, 1) ∧ decode cX9_init 151 = .ok (.iconst 2, 1) ∧ decode cX9_init 152 = .ok (.bipush 7, 2) ∧ decode cX9_init 154 = .ok (.iastore, 1) := by decide +kernel
theorem dX9_init_135 : decode cX9_init 135 = .ok (.putfield 35, 3) := dgX9_init_5.1
theorem dX9_init_138 : decode cX9_init 138 = .ok (.aload_n 0, 1) := dgX9_init_5.2.1
theorem dX9_init_139 : decode cX9_init 139 = .ok (.iconst 4, 1) := dgX9_init_5.2.2.1
theorem dX9_init_140 : decode cX9_init 140 = .ok (.newarray .int, 2) := dgX9_init_5.2.2.2.1
theorem dX9_init_142 : decode cX9_init 142 = .ok (.dup, 1) := dgX9_init_5.2.2.2.2.1
theorem dX9_init_143 : decode cX9_init 143 = .ok (.iconst 0, 1) := dgX9_init_5.2.2.2.2.2.1
theorem dX9_init_144 : decode cX9_init 144 = .ok (.iconst 0, 1) := dgX9_init_5.2.2.2.2.2.2.1
theorem dX9_init_145 : decode cX9_init 145 = .ok (.iastore, 1) := dgX9_init_5.2.2.2.2.2.2.2.1
theorem dX9_init_146 : decode cX9_init 146 = .ok (.dup, 1) := dgX9_init_5.2.2.2.2.2.2.2.2.1
theorem dX9_init_147 : decode cX9_init 147 = .ok (.iconst 1, 1) := dgX9_init_5.2.2.2.2.2.2.2.2.2.1
theorem dX9_init_148 : decode cX9_init 148 = .ok (.iconst 4, 1) := dgX9_init_5.2.2.2.2.2.2.2.2.2.2.1
theorem dX9_init_149 : decode cX9_init 149 = .ok (.iastore, 1) := dgX9_init_5.2.2.2.2.2.2.2.2.2.2.2.1
theorem dX9_init_150 : decode cX9_init 150 = .ok (.dup, 1) := dgX9_init_5.2.2.2.2.2.2.2.2.2.2.2.2.1
theorem dX9_init_151 : decode cX9_init 151 = .ok (.iconst 2, 1) := dgX9_init_5.2.2.2.2.2.2.2.2.2.2.2.2.2.1
theorem dX9_init_152 : decode cX9_init 152 = .ok (.bipush 7, 2) := dgX9_init_5.2.2.2.2.2.2.2.2.2.2.2.2.2.2.1
theorem dX9_init_154 : decode cX9_init 154 = .ok (.iastore, 1) := dgX9_init_5.2.2.2.2.2.2.2.2.2.2.2.2.2.2.2
theorem dgX9_init_6 : decode cX9_init 155 = .ok (.dup, 1) ∧ decode cX9_init 156 = .ok (.iconst 3, 1) ∧ decode cX9_init 157 = .ok (.bipush 11, 2) ∧ decode cX9_init 159 = .ok (.iastore, 1) ∧ decode cX9_init 160 = .ok (.putfield 39, 3) ∧ decode cX9_init 163 = .ok (.aload_n 0, 1) ∧ decode cX9_init 164 = .ok (.bipush 96, 2) ∧ decode cX9_init 166 = .ok (.newarray .int, 2) ∧ decode cX9_init 168 = .ok (.putfield 42, 3) ∧ decode cX9_init 171 = .ok (.aload_n 0, 1) ∧ decode cX9_init 172 = .ok (.bipush 96, 2) ∧ decode cX9_init 174 = .ok (.newarray .int, 2) ∧ decode cX9_init 176 = .ok (.putfield 45, 3) ∧ decode cX9_init 179 = .ok (.aload_n 0, 1) ∧ decode cX9_init 180 = .ok (.bipush 10, 2) ∧ decode cX9_init 182 = .ok (.newarray .boolean, 2) := by decide +kernel
theorem dX9_init_155 : decode cX9_init 155 = .ok (.dup, 1) := dgX9_init_6.1
theorem dX9_init_156 : decode cX9_init 156 = .ok (.iconst 3, 1) := dgX9_init_6.2.1
theorem dX9_init_157 : decode cX9_init 157 = .ok (.bipush 11, 2) := dgX9_init_6.2.2.1
theorem dX9_init_159 : decode cX9_init 159 = .ok (.iastore, 1) := dgX9_init_6.2.2.2.1
theorem dX9_init_160 : decode cX9_init 160 = .ok (.putfield 39, 3) := dgX9_init_6.2.2.2.2.1
theorem dX9_init_163 : decode cX9_init 163 = .ok (.aload_n 0, 1) := dgX9_init_6.2.2.2.2.2.1
theorem dX9_init_164 : decode cX9_init 164 = .ok (.bipush 96, 2) := dgX9_init_6.2.2.2.2.2.2.1
theorem dX9_init_166 : decode cX9_init 166 = .ok (.newarray .int, 2) := dgX9_init_6.2.2.2.2.2.2.2.1
theorem dX9_init_168 : decode cX9_init 168 = .ok (.putfield 42, 3) := dgX9_init_6.2.2.2.2.2.2.2.2.1
theorem dX9_init_171 : decode cX9_init 171 = .ok (.aload_n 0, 1) := dgX9_init_6.2.2.2.2.2.2.2.2.2.1
theorem dX9_init_172 : decode cX9_init 172 = .ok (.bipush 96, 2) := dgX9_init_6.2.2.2.2.2.2.2.2.2.2.1
theorem dX9_init_174 : decode cX9_init 174 = .ok (.newarray .int, 2) := dgX9_init_6.2.2.2.2.2.2.2.2.2.2.2.1
theorem dX9_init_176 : decode cX9_init 176 = .ok (.putfield 45, 3) := dgX9_init_6.2.2.2.2.2.2.2.2.2.2.2.2.1
theorem dX9_init_179 : decode cX9_init 179 = .ok (.aload_n 0, 1) := dgX9_init_6.2.2.2.2.2.2.2.2.2.2.2.2.2.1
theorem dX9_init_180 : decode cX9_init 180 = .ok (.bipush 10, 2) := dgX9_init_6.2.2.2.2.2.2.2.2.2.2.2.2.2.2.1
theorem dX9_init_182 : decode cX9_init 182 = .ok (.newarray .boolean, 2) := dgX9_init_6.2.2.2.2.2.2.2.2.2.2.2.2.2.2.2
theorem dgX9_init_7 : decode cX9_init 184 = .ok (.putfield 48, 3) ∧ decode cX9_init 187 = .ok (.aload_n 0, 1) ∧ decode cX9_init 188 = .ok (.bipush 96, 2) ∧ decode cX9_init 190 = .ok (.newarray .int, 2) ∧ decode cX9_init 192 = .ok (.putfield 52, 3) ∧ decode cX9_init 195 = .ok (.aload_n 0, 1) ∧ decode cX9_init 196 = .ok (.iconst 4, 1) ∧ decode cX9_init 197 = .ok (.newarray .int, 2) ∧ decode cX9_init 199 = .ok (.putfield 55, 3) ∧ decode cX9_init 202 = .ok (.aload_n 0, 1) ∧ decode cX9_init 203 = .ok (.iconst 4, 1) ∧ decode cX9_init 204 = .ok (.newarray .int, 2) ∧ decode cX9_init 206 = .ok (.dup, 1) ∧ decode cX9_init 207 = .ok (.iconst 0, 1) ∧ decode cX9_init 208 = .ok (.iconst (-1), 1) ∧ decode cX9_init 209 = .ok (.iastore, 1) := by decide +kernel
theorem dX9_init_184 : decode cX9_init 184 = .ok (.putfield 48, 3) := dgX9_init_7.1
theorem dX9_init_187 : decode cX9_init 187 = .ok (.aload_n 0, 1) := dgX9_init_7.2.1
theorem dX9_init_188 : decode cX9_init 188 = .ok (.bipush 96, 2) := dgX9_init_7.2.2.1
theorem dX9_init_190 : decode cX9_init 190 = .ok (.newarray .int, 2) := dgX9_init_7.2.2.2.1
theorem dX9_init_192 : decode cX9_init 192 = .ok (.putfield 52, 3) := dgX9_init_7.2.2.2.2.1
theorem dX9_init_195 : decode cX9_init 195 = .ok (.aload_n 0, 1) := dgX9_init_7.2.2.2.2.2.1
theorem dX9_init_196 : decode cX9_init 196 = .ok (.iconst 4, 1) := dgX9_init_7.2.2.2.2.2.2.1
theorem dX9_init_197 : decode cX9_init 197 = .ok (.newarray .int, 2) := dgX9_init_7.2.2.2.2.2.2.2.1
theorem dX9_init_199 : decode cX9_init 199 = .ok (.putfield 55, 3) := dgX9_init_7.2.2.2.2.2.2.2.2.1
theorem dX9_init_202 : decode cX9_init 202 = .ok (.aload_n 0, 1) := dgX9_init_7.2.2.2.2.2.2.2.2.2.1
theorem dX9_init_203 : decode cX9_init 203 = .ok (.iconst 4, 1) := dgX9_init_7.2.2.2.2.2.2.2.2.2.2.1
theorem dX9_init_204 : decode cX9_init 204 = .ok (.newarray .int, 2) := dgX9_init_7.2.2.2.2.2.2.2.2.2.2.2.1
theorem dX9_init_206 : decode cX9_init 206 = .ok (.dup, 1) := dgX9_init_7.2.2.2.2.2.2.2.2.2.2.2.2.1
theorem dX9_init_207 : decode cX9_init 207 = .ok (.iconst 0, 1) := dgX9_init_7.2.2.2.2.2.2.2.2.2.2.2.2.2.1
theorem dX9_init_208 : decode cX9_init 208 = .ok (.iconst (-1), 1) := dgX9_init_7.2.2.2.2.2.2.2.2.2.2.2.2.2.2.1
theorem dX9_init_209 : decode cX9_init 209 = .ok (.iastore, 1) := dgX9_init_7.2.2.2.2.2.2.2.2.2.2.2.2.2.2.2
theorem dgX9_init_8 : decode cX9_init 210 = .ok (.dup, 1) ∧ decode cX9_init 211 = .ok (.iconst 1, 1) ∧ decode cX9_init 212 = .ok (.iconst (-1), 1) ∧ decode cX9_init 213 = .ok (.iastore, 1) ∧ decode cX9_init 214 = .ok (.dup, 1) ∧ decode cX9_init 215 = .ok (.iconst 2, 1) ∧ decode cX9_init 216 = .ok (.iconst (-1), 1) ∧ decode cX9_init 217 = .ok (.iastore, 1) ∧ decode cX9_init 218 = .ok (.dup, 1) ∧ decode cX9_init 219 = .ok (.iconst 3, 1) ∧ decode cX9_init 220 = .ok (.iconst (-1), 1) ∧ decode cX9_init 221 = .ok (.iastore, 1) ∧ decode cX9_init 222 = .ok (.putfield 58, 3) ∧ decode cX9_init 225 = .ok (.aload_n 0, 1) ∧ decode cX9_init 226 = .ok (.iconst 4, 1) ∧ decode cX9_init 227 = .ok (.newarray .int, 2) := by decide +kernel
theorem dX9_init_210 : decode cX9_init 210 = .ok (.dup, 1) := dgX9_init_8.1
theorem dX9_init_211 : decode cX9_init 211 = .ok (.iconst 1, 1) := dgX9_init_8.2.1
theorem dX9_init_212 : decode cX9_init 212 = .ok (.iconst (-1), 1) := dgX9_init_8.2.2.1
theorem dX9_init_213 : decode cX9_init 213 = .ok (.iastore, 1) := dgX9_init_8.2.2.2.1
theorem dX9_init_214 : decode cX9_init 214 = .ok (.dup, 1) := dgX9_init_8.2.2.2.2.1
theorem dX9_init_215 : decode cX9_init 215 = .ok (.iconst 2, 1) := dgX9_init_8.2.2.2.2.2.1
theorem dX9_init_216 : decode cX9_init 216 = .ok (.iconst (-1), 1) := dgX9_init_8.2.2.2.2.2.2.1
theorem dX9_init_217 : decode cX9_init 217 = .ok (.iastore, 1) := dgX9_init_8.2.2.2.2.2.2.2.1
theorem dX9_init_218 : decode cX9_init 218 = .ok (.dup, 1) := dgX9_init_8.2.2.2.2.2.2.2.2.1
theorem dX9_init_219 : decode cX9_init 219 = .ok (.iconst 3, 1) := dgX9_init_8.2.2.2.2.2.2.2.2.2.1
theorem dX9_init_220 : decode cX9_init 220 = .ok (.iconst (-1), 1) := dgX9_init_8.2.2.2.2.2.2.2.2.2.2.1
theorem dX9_init_221 : decode cX9_init 221 = .ok (.iastore, 1) := dgX9_init_8.2.2.2.2.2.2.2.2.2.2.2.1
theorem dX9_init_222 : decode cX9_init 222 = .ok (.putfield 58, 3) := dgX9_init_8.2.2.2.2.2.2.2.2.2.2.2.2.1
theorem dX9_init_225 : decode cX9_init 225 = .ok (.aload_n 0, 1) := dgX9_init_8.2.2.2.2.2.2.2.2.2.2.2.2.2.1
theorem dX9_init_226 : decode cX9_init 226 = .ok (.iconst 4, 1) := dgX9_init_8.2.2.2.2.2.2.2.2.2.2.2.2.2.2.1
theorem dX9_init_227 : decode cX9_init 227 = .ok (.newarray .int, 2) := dgX9_init_8.2.2.2.2.2.2.2.2.2.2.2.2.2.2.2
theorem dgX9_init_9 : decode cX9_init 229 = .ok (.putfield 61, 3) ∧ decode cX9_init 232 = .ok (.aload_n 0, 1) ∧ decode cX9_init 233 = .ok (.bipush 96, 2) ∧ decode cX9_init 235 = .ok (.newarray .int, 2) ∧ decode cX9_init 237 = .ok (.putfield 64, 3) ∧ decode cX9_init 240 = .ok (.aload_n 0, 1) ∧ decode cX9_init 241 = .ok (.iconst 5, 1) ∧ decode cX9_init 242 = .ok (.newarray .int, 2) ∧ decode cX9_init 244 = .ok (.putfield 67, 3) ∧ decode cX9_init 247 = .ok (.aload_n 0, 1) ∧ decode cX9_init 248 = .ok (.iconst 5, 1) ∧ decode cX9_init 249 = .ok (.newarray .int, 2) ∧ decode cX9_init 251 = .ok (.putfield 70, 3) ∧ decode cX9_init 254 = .ok (.aload_n 0, 1) ∧ decode cX9_init 255 = .ok (.iconst 5, 1) ∧ decode cX9_init 256 = .ok (.newarray .int, 2) := by decide +kernel
theorem dX9_init_229 : decode cX9_init 229 = .ok (.putfield 61, 3) := dgX9_init_9.1
theorem dX9_init_232 : decode cX9_init 232 = .ok (.aload_n 0, 1) := dgX9_init_9.2.1
theorem dX9_init_233 : decode cX9_init 233 = .ok (.bipush 96, 2) := dgX9_init_9.2.2.1
theorem dX9_init_235 : decode cX9_init 235 = .ok (.newarray .int, 2) := dgX9_init_9.2.2.2.1
theorem dX9_init_237 : decode cX9_init 237 = .ok (.putfield 64, 3) := dgX9_init_9.2.2.2.2.1
theorem dX9_init_240 : decode cX9_init 240 = .ok (.aload_n 0, 1) := dgX9_init_9.2.2.2.2.2.1
theorem dX9_init_241 : decode cX9_init 241 = .ok (.iconst 5, 1) := dgX9_init_9.2.2.2.2.2.2.1
theorem dX9_init_242 : decode cX9_init 242 = .ok (.newarray .int, 2) := dgX9_init_9.2.2.2.2.2.2.2.1
theorem dX9_init_244 : decode cX9_init 244 = .ok (.putfield 67, 3) := dgX9_init_9.2.2.2.2.2.2.2.2.1
theorem dX9_init_247 : decode cX9_init 247 = .ok (.aload_n 0, 1) := dgX9_init_9.2.2.2.2.2.2.2.2.2.1
theorem dX9_init_248 : decode cX9_init 248 = .ok (.iconst 5, 1) := dgX9_init_9.2.2.2.2.2.2.2.2.2.2.1
theorem dX9_init_249 : decode cX9_init 249 = .ok (.newarray .int, 2) := dgX9_init_9.2.2.2.2.2.2.2.2.2.2.2.1
theorem dX9_init_251 : decode cX9_init 251 = .ok (.putfield 70, 3) := dgX9_init_9.2.2.2.2.2.2.2.2.2.2.2.2.1
theorem dX9_init_254 : decode cX9_init 254 = .ok (.aload_n 0, 1) := dgX9_init_9.2.2.2.2.2.2.2.2.2.2.2.2.2.1
theorem dX9_init_255 : decode cX9_init 255 = .ok (.iconst 5, 1) := dgX9_init_9.2.2.2.2.2.2.2.2.2.2.2.2.2.2.1
theorem dX9_init_256 : decode cX9_init 256 = .ok (.newarray .int, 2) := dgX9_init_9.2.2.2.2.2.2.2.2.2.2.2.2.2.2.2
theorem dgX9_init_10 : decode cX9_init 258 = .ok (.putfield 73, 3) ∧ decode cX9_init 261 = .ok (.aload_n 0, 1) ∧ decode cX9_init 262 = .ok (.bipush 120, 2) ∧ decode cX9_init 264 = .ok (.newarray .int, 2) ∧ decode cX9_init 266 = .ok (.putfield 76, 3) ∧ decode cX9_init 269 = .ok (.aload_n 0, 1) ∧ decode cX9_init 270 = .ok (.bipush 24, 2) ∧ decode cX9_init 272 = .ok (.newarray .int, 2) ∧ decode cX9_init 274 = .ok (.putfield 79, 3) ∧ decode cX9_init 277 = .ok (.aload_n 0, 1) ∧ decode cX9_init 278 = .ok (.bipush 60, 2) ∧ decode cX9_init 280 = .ok (.newarray .int, 2) ∧ decode cX9_init 282 = .ok (.putfield 82, 3) ∧ decode cX9_init 285 = .ok (.aload_n 0, 1) ∧ decode cX9_init 286 = .ok (.getfield 9, 3) ∧ decode cX9_init 289 = .ok (.iconst 0, 1) := by decide +kernel
theorem dX9_init_258 : decode cX9_init 258 = .ok (.putfield 73, 3) := dgX9_init_10.1
theorem dX9_init_261 : decode cX9_init 261 = .ok (.aload_n 0, 1) := dgX9_init_10.2.1
theorem dX9_init_262 : decode cX9_init 262 = .ok (.bipush 120, 2) := dgX9_init_10.2.2.1
theorem dX9_init_264 : decode cX9_init 264 = .ok (.newarray .int, 2) := dgX9_init_10.2.2.2.1
theorem dX9_init_266 : decode cX9_init 266 = .ok (.putfield 76, 3) := dgX9_init_10.2.2.2.2.1
theorem dX9_init_269 : decode cX9_init 269 = .ok (.aload_n 0, 1) := dgX9_init_10.2.2.2.2.2.1
theorem dX9_init_270 : decode cX9_init 270 = .ok (.bipush 24, 2) := dgX9_init_10.2.2.2.2.2.2.1
theorem dX9_init_272 : decode cX9_init 272 = .ok (.newarray .int, 2) := dgX9_init_10.2.2.2.2.2.2.2.1
theorem dX9_init_274 : decode cX9_init 274 = .ok (.putfield 79, 3) := dgX9_init_10.2.2.2.2.2.2.2.2.1
theorem dX9_init_277 : decode cX9_init 277 = .ok (.aload_n 0, 1) := dgX9_init_10.2.2.2.2.2.2.2.2.2.1
theorem dX9_init_278 : decode cX9_init 278 = .ok (.bipush 60, 2) := dgX9_init_10.2.2.2.2.2.2.2.2.2.2.1
theorem dX9_init_280 : decode cX9_init 280 = .ok (.newarray .int, 2) := dgX9_init_10.2.2.2.2.2.2.2.2.2.2.2.1
theorem dX9_init_282 : decode cX9_init 282 = .ok (.putfield 82, 3) := dgX9_init_10.2.2.2.2.2.2.2.2.2.2.2.2.1
theorem dX9_init_285 : decode cX9_init 285 = .ok (.aload_n 0, 1) := dgX9_init_10.2.2.2.2.2.2.2.2.2.2.2.2.2.1
theorem dX9_init_286 : decode cX9_init 286 = .ok (.getfield 9, 3) := dgX9_init_10.2.2.2.2.2.2.2.2.2.2.2.2.2.2.1
theorem dX9_init_289 : decode cX9_init 289 = .ok (.iconst 0, 1) := dgX9_init_10.2.2.2.2.2.2.2.2.2.2.2.2.2.2.2
theorem dgX9_init_11 : decode cX9_init 290 = .ok (.iconst 1, 1) ∧ decode cX9_init 291 = .ok (.iastore, 1) ∧ decode cX9_init 292 = .ok (.iconst 0, 1) ∧ decode cX9_init 293 = .ok (.istore_n 1, 1) ∧ decode cX9_init 294 = .ok (.iload_n 1, 1) ∧ decode cX9_init 295 = .ok (.bipush 24, 2) ∧ decode cX9_init 297 = .ok (.if_icmp .ge 19, 3) ∧ decode cX9_init 300 = .ok (.aload_n 0, 1) ∧ decode cX9_init 301 = .ok (.getfield 9, 3) ∧ decode cX9_init 304 = .ok (.iconst 5, 1) ∧ decode cX9_init 305 = .ok (.iload_n 1, 1) ∧ decode cX9_init 306 = .ok (.iadd, 1) ∧ decode cX9_init 307 = .ok (.bipush 50, 2) ∧ decode cX9_init 309 = .ok (.iastore, 1) ∧ decode cX9_init 310 = .ok (.iinc 1 1, 3) ∧ decode cX9_init 313 = .ok (.goto (-19), 3) := by decide +kernel
theorem dX9_init_290 : decode cX9_init 290 = .ok (.iconst 1, 1) := dgX9_init_11.1
theorem dX9_init_291 : decode cX9_init 291 = .ok (.iastore, 1) := dgX9_init_11.2.1
theorem dX9_init_292 : decode cX9_init 292 = .ok (.iconst 0, 1) := dgX9_init_11.2.2.1
theorem dX9_init_293 : decode cX9_init 293 = .ok (.istore_n 1, 1) := dgX9_init_11.2.2.2.1
theorem dX9_init_294 : decode cX9_init 294 = .ok (.iload_n 1, 1) := dgX9_init_11.2.2.2.2.1
theorem dX9_init_295 : decode cX9_init 295 = .ok (.bipush 24, 2) := dgX9_init_11.2.2.2.2.2.1
theorem dX9_init_297 : decode cX9_init 297 = .ok (.if_icmp .ge 19, 3) := dgX9_init_11.2.2.2.2.2.2.1
theorem dX9_init_300 : decode cX9_init 300 = .ok (.aload_n 0, 1) := dgX9_init_11.2.2.2.2.2.2.2.1
theorem dX9_init_301 : decode cX9_init 301 = .ok (.getfield 9, 3) := dgX9_init_11.2.2.2.2.2.2.2.2.1
theorem dX9_init_304 : decode cX9_init 304 = .ok (.iconst 5, 1) := dgX9_init_11.2.2.2.2.2.2.2.2.2.1
theorem dX9_init_305 : decode cX9_init 305 = .ok (.iload_n 1, 1) := dgX9_init_11.2.2.2.2.2.2.2.2.2.2.1
theorem dX9_init_306 : decode cX9_init 306 = .ok (.iadd, 1) := dgX9_init_11.2.2.2.2.2.2.2.2.2.2.2.1
theorem dX9_init_307 : decode cX9_init 307 = .ok (.bipush 50, 2) := dgX9_init_11.2.2.2.2.2.2.2.2.2.2.2.2.1
theorem dX9_init_309 : decode cX9_init 309 = .ok (.iastore, 1) := dgX9_init_11.2.2.2.2.2.2.2.2.2.2.2.2.2.1
theorem dX9_init_310 : decode cX9_init 310 = .ok (.iinc 1 1, 3) := dgX9_init_11.2.2.2.2.2.2.2.2.2.2.2.2.2.2.1
theorem dX9_init_313 : decode cX9_init 313 = .ok (.goto (-19), 3) := dgX9_init_11.2.2.2.2.2.2.2.2.2.2.2.2.2.2.2
theorem dX9_init_316 : decode cX9_init 316 = .ok (.return_, 1) := by decide +kernel
abbrev pX9_init : List Nat := [0, 294, 316]
def bX9_init_0 (cal : ab_F) : ab_K := o_aload 0 <| o_oinit <| o_aload 0 <| o_push (.int 1461) <| o_newi 0 <| o_putA 8 0 <| o_aload 0 <| o_push (.int 1461) <| o_newi 0 <| o_putA 8 1 <| o_aload 0 <| o_push (.int 1461) <| o_newi 0 <| o_putA 8 2 <| o_aload 0 <| o_push (.int (-1)) <| o_putI 8 4 <| o_aload 0 <| o_push (.int 4096) <| o_newi 0 <| o_putA 8 5 <| o_aload 0 <| o_push (.int 144) <| o_newi 0 <| o_putA 8 6 <| o_aload 0 <| o_push (.int 89) <| o_newi 0 <| o_putA 8 7 <| o_aload 0 <| o_push (.int 96) <| o_newi 0 <| o_putA 8 8 <| o_aload 0 <| o_push (.int 11) <| o_newi 1 <| o_dup <| o_push (.int 0) <| o_push (.int 100) <| o_iast 1 (vp_nar .char) <| o_dup <| o_push (.int 1) <| o_push (.int 97) <| o_iast 1 (vp_nar .char) <| o_dup <| o_push (.int 2) <| o_push (.int 114) <| o_iast 1 (vp_nar .char) <| o_dup <| o_push (.int 3) <| o_push (.int 107) <| o_iast 1 (vp_nar .char) <| o_dup <| o_push (.int 4) <| o_push (.int 102) <| o_iast 1 (vp_nar .char) <| o_dup <| o_push (.int 5) <| o_push (.int 101) <| o_iast 1 (vp_nar .char) <| o_dup <| o_push (.int 6) <| o_push (.int 101) <| o_iast 1 (vp_nar .char) <| o_dup <| o_push (.int 7) <| o_push (.int 102) <| o_iast 1 (vp_nar .char) <| o_dup <| o_push (.int 8) <| o_push (.int 105) <| o_iast 1 (vp_nar .char) <| o_dup <| o_push (.int 9) <| o_push (.int 110) <| o_iast 1 (vp_nar .char) <| o_dup <| o_push (.int 10) <| o_push (.int 101) <| o_iast 1 (vp_nar .char) <| o_putA 8 16 <| o_aload 0 <| o_push (.int 4) <| o_newi 0 <| o_dup <| o_push (.int 0) <| o_push (.int 0) <| o_iast 0 (fun x => x) <| o_dup <| o_push (.int 1) <| o_push (.int 4) <| o_iast 0 (fun x => x) <| o_dup <| o_push (.int 2) <| o_push (.int 7) <| o_iast 0 (fun x => x) <| o_dup <| o_push (.int 3) <| o_push (.int 11) <| o_iast 0 (fun x => x) <| o_putA 8 17 <| o_aload 0 <| o_push (.int 96) <| o_newi 0 <| o_putA 8 18 <| o_aload 0 <| o_push (.int 96) <| o_newi 0 <| o_putA 8 21 <| o_aload 0 <| o_push (.int 10) <| o_newi 2 <| o_putA 8 23 <| o_aload 0 <| o_push (.int 96) <| o_newi 0 <| o_putA 8 24 <| o_aload 0 <| o_push (.int 4) <| o_newi 0 <| o_putA 8 25 <| o_aload 0 <| o_push (.int 4) <| o_newi 0 <| o_dup <| o_push (.int 0) <| o_push (.int (-1)) <| o_iast 0 (fun x => x) <| o_dup <| o_push (.int 1) <| o_push (.int (-1)) <| o_iast 0 (fun x => x) <| o_dup <| o_push (.int 2) <| o_push (.int (-1)) <| o_iast 0 (fun x => x) <| o_dup <| o_push (.int 3) <| o_push (.int (-1)) <| o_iast 0 (fun x => x) <| o_putA 8 26 <| o_aload 0 <| o_push (.int 4) <| o_newi 0 <| o_putA 8 27 <| o_aload 0 <| o_push (.int 96) <| o_newi 0 <| o_putA 8 28 <| o_aload 0 <| o_push (.int 5) <| o_newi 0 <| o_putA 8 29 <| o_aload 0 <| o_push (.int 5) <| o_newi 0 <| o_putA 8 30 <| o_aload 0 <| o_push (.int 5) <| o_newi 0 <| o_putA 8 31 <| o_aload 0 <| o_push (.int 120) <| o_newi 0 <| o_putA 8 32 <| o_aload 0 <| o_push (.int 24) <| o_newi 0 <| o_putA 8 33 <| o_aload 0 <| o_push (.int 60) <| o_newi 0 <| o_putA 8 34 <| o_aload 0 <| o_getf 8 0 <| o_push (.int 0) <| o_push (.int 1) <| o_iast 0 (fun x => x) <| o_push (.int 0) <| o_istore 1 <| o_goto 1
def bX9_init_1 (cal : ab_F) : ab_K := o_iload 1 <| o_push (.int 24) <| o_cmp (fun x y => decide (y ≤ x)) 2 <| o_aload 0 <| o_getf 8 0 <| o_push (.int 5) <| o_iload 1 <| o_bin (fun x y => x + y) <| o_push (.int 50) <| o_iast 0 (fun x => x) <| o_iinc 1 1 <| o_goto 1
def bX9_init_2 (cal : ab_F) : ab_K := o_ret none
def bX9_init (cal : ab_F) : List ab_K := [bX9_init_0 cal, bX9_init_1 cal, bX9_init_2 cal]
set_option maxRecDepth 100000 in
theorem sX9_init_0 {G : ab_G} {xs : List Int32} {d : Nat} {cal : ab_F} (hcs : ab_CS G (ab_Z G xs) ab_Mf cal d) : ab_Sd G (ab_Z G xs) (d + 1) (ab_mY mX9_init pX9_init) 0 (bX9_init_0 cal) :=
  sn_aload_n dX9_init_0 rfl <| sn_oinit (Nat.le_add_left 1 _) dX9_init_1 w_990 w_80 w_81 <| sn_aload_n dX9_init_4 rfl <| sn_sipush dX9_init_5 rfl <| sn_newi dX9_init_8 rfl w_154 rfl (fun _ _ h => h) rfl (by decide) <| sn_putA tyX9 tyX9_ok nmX9 dX9_init_10 rfl hinX9 (by decide) w_991 (Or.inr ⟨rfl, rfl, rfl⟩) (tyX9_ok 0 (by decide)) (fun _ => ⟨rfl, rfl⟩) ⟨rfl, rfl⟩ <| sn_aload_n dX9_init_13 rfl <| sn_sipush dX9_init_14 rfl <| sn_newi dX9_init_17 rfl w_154 rfl (fun _ _ h => h) rfl (by decide) <| sn_putA tyX9 tyX9_ok nmX9 dX9_init_19 rfl hinX9 (by decide) w_992 (Or.inr ⟨rfl, rfl, rfl⟩) (tyX9_ok 1 (by decide)) (fun _ => ⟨rfl, rfl⟩) ⟨rfl, rfl⟩ <| sn_aload_n dX9_init_22 rfl <| sn_sipush dX9_init_23 rfl <| sn_newi dX9_init_26 rfl w_154 rfl (fun _ _ h => h) rfl (by decide) <| sn_putA tyX9 tyX9_ok nmX9 dX9_init_28 rfl hinX9 (by decide) w_993 (Or.inr ⟨rfl, rfl, rfl⟩) (tyX9_ok 2 (by decide)) (fun _ => ⟨rfl, rfl⟩) ⟨rfl, rfl⟩ <| sn_aload_n dX9_init_31 rfl <| sn_iconst dX9_init_32 rfl <| sn_putI tyX9 tyX9_ok nmX9 dX9_init_33 rfl hinX9 (by decide) w_995 (Or.inl rfl) (tyX9_ok 4 (by decide)) <| sn_aload_n dX9_init_36 rfl <| sn_sipush dX9_init_37 rfl <| sn_newi dX9_init_40 rfl w_154 rfl (fun _ _ h => h) rfl (by decide) <| sn_putA tyX9 tyX9_ok nmX9 dX9_init_42 rfl hinX9 (by decide) w_996 (Or.inr ⟨rfl, rfl, rfl⟩) (tyX9_ok 5 (by decide)) (fun _ => ⟨rfl, rfl⟩) ⟨rfl, rfl⟩ <| sn_aload_n dX9_init_45 rfl <| sn_sipush dX9_init_46 rfl <| sn_newi dX9_init_49 rfl w_154 rfl (fun _ _ h => h) rfl (by decide) <| sn_putA tyX9 tyX9_ok nmX9 dX9_init_51 rfl hinX9 (by decide) w_997 (Or.inr ⟨rfl, rfl, rfl⟩) (tyX9_ok 6 (by decide)) (fun _ => ⟨rfl, rfl⟩) ⟨rfl, rfl⟩ <| sn_aload_n dX9_init_54 rfl <| sn_bipush dX9_init_55 rfl <| sn_newi dX9_init_57 rfl w_154 rfl (fun _ _ h => h) rfl (by decide) <| sn_putA tyX9 tyX9_ok nmX9 dX9_init_59 rfl hinX9 (by decide) w_998 (Or.inr ⟨rfl, rfl, rfl⟩) (tyX9_ok 7 (by decide)) (fun _ => ⟨rfl, rfl⟩) ⟨rfl, rfl⟩ <| sn_aload_n dX9_init_62 rfl <| sn_bipush dX9_init_63 rfl <| sn_newi dX9_init_65 rfl w_154 rfl (fun _ _ h => h) rfl (by decide) <| sn_putA tyX9 tyX9_ok nmX9 dX9_init_67 rfl hinX9 (by decide) w_999 (Or.inr ⟨rfl, rfl, rfl⟩) (tyX9_ok 8 (by decide)) (fun _ => ⟨rfl, rfl⟩) ⟨rfl, rfl⟩ <| sn_aload_n dX9_init_70 rfl <| sn_bipush dX9_init_71 rfl <| sn_newi dX9_init_73 rfl w_1100 rfl (fun _ _ h => h) rfl (by decide) <| sn_dup dX9_init_75 <| sn_iconst dX9_init_76 rfl <| sn_bipush dX9_init_77 rfl <| sn_cast dX9_init_79 rfl rfl <| sn_dup dX9_init_80 <| sn_iconst dX9_init_81 rfl <| sn_bipush dX9_init_82 rfl <| sn_cast dX9_init_84 rfl rfl <| sn_dup dX9_init_85 <| sn_iconst dX9_init_86 rfl <| sn_bipush dX9_init_87 rfl <| sn_cast dX9_init_89 rfl rfl <| sn_dup dX9_init_90 <| sn_iconst dX9_init_91 rfl <| sn_bipush dX9_init_92 rfl <| sn_cast dX9_init_94 rfl rfl <| sn_dup dX9_init_95 <| sn_iconst dX9_init_96 rfl <| sn_bipush dX9_init_97 rfl <| sn_cast dX9_init_99 rfl rfl <| sn_dup dX9_init_100 <| sn_iconst dX9_init_101 rfl <| sn_bipush dX9_init_102 rfl <| sn_cast dX9_init_104 rfl rfl <| sn_dup dX9_init_105 <| sn_bipush dX9_init_106 rfl <| sn_bipush dX9_init_108 rfl <| sn_cast dX9_init_110 rfl rfl <| sn_dup dX9_init_111 <| sn_bipush dX9_init_112 rfl <| sn_bipush dX9_init_114 rfl <| sn_cast dX9_init_116 rfl rfl <| sn_dup dX9_init_117 <| sn_bipush dX9_init_118 rfl <| sn_bipush dX9_init_120 rfl <| sn_cast dX9_init_122 rfl rfl <| sn_dup dX9_init_123 <| sn_bipush dX9_init_124 rfl <| sn_bipush dX9_init_126 rfl <| sn_cast dX9_init_128 rfl rfl <| sn_dup dX9_init_129 <| sn_bipush dX9_init_130 rfl <| sn_bipush dX9_init_132 rfl <| sn_cast dX9_init_134 rfl rfl <| sn_putA tyX9 tyX9_ok nmX9 dX9_init_135 rfl hinX9 (by decide) w_1007 (Or.inr ⟨rfl, rfl, rfl⟩) (tyX9_ok 16 (by decide)) (fun _ => ⟨rfl, rfl⟩) ⟨rfl, rfl⟩ <| sn_aload_n dX9_init_138 rfl <| sn_iconst dX9_init_139 rfl <| sn_newi dX9_init_140 rfl w_154 rfl (fun _ _ h => h) rfl (by decide) <| sn_dup dX9_init_142 <| sn_iconst dX9_init_143 rfl <| sn_iconst dX9_init_144 rfl <| sn_iast dX9_init_145 rfl rfl <| sn_dup dX9_init_146 <| sn_iconst dX9_init_147 rfl <| sn_iconst dX9_init_148 rfl <| sn_iast dX9_init_149 rfl rfl <| sn_dup dX9_init_150 <| sn_iconst dX9_init_151 rfl <| sn_bipush dX9_init_152 rfl <| sn_iast dX9_init_154 rfl rfl <| sn_dup dX9_init_155 <| sn_iconst dX9_init_156 rfl <| sn_bipush dX9_init_157 rfl <| sn_iast dX9_init_159 rfl rfl <| sn_putA tyX9 tyX9_ok nmX9 dX9_init_160 rfl hinX9 (by decide) w_1008 (Or.inr ⟨rfl, rfl, rfl⟩) (tyX9_ok 17 (by decide)) (fun _ => ⟨rfl, rfl⟩) ⟨rfl, rfl⟩ <| sn_aload_n dX9_init_163 rfl <| sn_bipush dX9_init_164 rfl <| sn_newi dX9_init_166 rfl w_154 rfl (fun _ _ h => h) rfl (by decide) <| sn_putA tyX9 tyX9_ok nmX9 dX9_init_168 rfl hinX9 (by decide) w_1009 (Or.inr ⟨rfl, rfl, rfl⟩) (tyX9_ok 18 (by decide)) (fun _ => ⟨rfl, rfl⟩) ⟨rfl, rfl⟩ <| sn_aload_n dX9_init_171 rfl <| sn_bipush dX9_init_172 rfl <| sn_newi dX9_init_174 rfl w_154 rfl (fun _ _ h => h) rfl (by decide) <| sn_putA tyX9 tyX9_ok nmX9 dX9_init_176 rfl hinX9 (by decide) w_1012 (Or.inr ⟨rfl, rfl, rfl⟩) (tyX9_ok 21 (by decide)) (fun _ => ⟨rfl, rfl⟩) ⟨rfl, rfl⟩ <| sn_aload_n dX9_init_179 rfl <| sn_bipush dX9_init_180 rfl <| sn_newi dX9_init_182 rfl w_1101 rfl (fun _ _ h => h) rfl (by decide) <| sn_putA tyX9 tyX9_ok nmX9 dX9_init_184 rfl hinX9 (by decide) w_1014 (Or.inr ⟨rfl, rfl, rfl⟩) (tyX9_ok 23 (by decide)) (fun _ => ⟨rfl, rfl⟩) ⟨rfl, rfl⟩ <| sn_aload_n dX9_init_187 rfl <| sn_bipush dX9_init_188 rfl <| sn_newi dX9_init_190 rfl w_154 rfl (fun _ _ h => h) rfl (by decide) <| sn_putA tyX9 tyX9_ok nmX9 dX9_init_192 rfl hinX9 (by decide) w_1015 (Or.inr ⟨rfl, rfl, rfl⟩) (tyX9_ok 24 (by decide)) (fun _ => ⟨rfl, rfl⟩) ⟨rfl, rfl⟩ <| sn_aload_n dX9_init_195 rfl <| sn_iconst dX9_init_196 rfl <| sn_newi dX9_init_197 rfl w_154 rfl (fun _ _ h => h) rfl (by decide) <| sn_putA tyX9 tyX9_ok nmX9 dX9_init_199 rfl hinX9 (by decide) w_1016 (Or.inr ⟨rfl, rfl, rfl⟩) (tyX9_ok 25 (by decide)) (fun _ => ⟨rfl, rfl⟩) ⟨rfl, rfl⟩ <| sn_aload_n dX9_init_202 rfl <| sn_iconst dX9_init_203 rfl <| sn_newi dX9_init_204 rfl w_154 rfl (fun _ _ h => h) rfl (by decide) <| sn_dup dX9_init_206 <| sn_iconst dX9_init_207 rfl <| sn_iconst dX9_init_208 rfl <| sn_iast dX9_init_209 rfl rfl <| sn_dup dX9_init_210 <| sn_iconst dX9_init_211 rfl <| sn_iconst dX9_init_212 rfl <| sn_iast dX9_init_213 rfl rfl <| sn_dup dX9_init_214 <| sn_iconst dX9_init_215 rfl <| sn_iconst dX9_init_216 rfl <| sn_iast dX9_init_217 rfl rfl <| sn_dup dX9_init_218 <| sn_iconst dX9_init_219 rfl <| sn_iconst dX9_init_220 rfl <| sn_iast dX9_init_221 rfl rfl <| sn_putA tyX9 tyX9_ok nmX9 dX9_init_222 rfl hinX9 (by decide) w_1017 (Or.inr ⟨rfl, rfl, rfl⟩) (tyX9_ok 26 (by decide)) (fun _ => ⟨rfl, rfl⟩) ⟨rfl, rfl⟩ <| sn_aload_n dX9_init_225 rfl <| sn_iconst dX9_init_226 rfl <| sn_newi dX9_init_227 rfl w_154 rfl (fun _ _ h => h) rfl (by decide) <| sn_putA tyX9 tyX9_ok nmX9 dX9_init_229 rfl hinX9 (by decide) w_1018 (Or.inr ⟨rfl, rfl, rfl⟩) (tyX9_ok 27 (by decide)) (fun _ => ⟨rfl, rfl⟩) ⟨rfl, rfl⟩ <| sn_aload_n dX9_init_232 rfl <| sn_bipush dX9_init_233 rfl <| sn_newi dX9_init_235 rfl w_154 rfl (fun _ _ h => h) rfl (by decide) <| sn_putA tyX9 tyX9_ok nmX9 dX9_init_237 rfl hinX9 (by decide) w_1019 (Or.inr ⟨rfl, rfl, rfl⟩) (tyX9_ok 28 (by decide)) (fun _ => ⟨rfl, rfl⟩) ⟨rfl, rfl⟩ <| sn_aload_n dX9_init_240 rfl <| sn_iconst dX9_init_241 rfl <| sn_newi dX9_init_242 rfl w_154 rfl (fun _ _ h => h) rfl (by decide) <| sn_putA tyX9 tyX9_ok nmX9 dX9_init_244 rfl hinX9 (by decide) w_1020 (Or.inr ⟨rfl, rfl, rfl⟩) (tyX9_ok 29 (by decide)) (fun _ => ⟨rfl, rfl⟩) ⟨rfl, rfl⟩ <| sn_aload_n dX9_init_247 rfl <| sn_iconst dX9_init_248 rfl <| sn_newi dX9_init_249 rfl w_154 rfl (fun _ _ h => h) rfl (by decide) <| sn_putA tyX9 tyX9_ok nmX9 dX9_init_251 rfl hinX9 (by decide) w_1021 (Or.inr ⟨rfl, rfl, rfl⟩) (tyX9_ok 30 (by decide)) (fun _ => ⟨rfl, rfl⟩) ⟨rfl, rfl⟩ <| sn_aload_n dX9_init_254 rfl <| sn_iconst dX9_init_255 rfl <| sn_newi dX9_init_256 rfl w_154 rfl (fun _ _ h => h) rfl (by decide) <| sn_putA tyX9 tyX9_ok nmX9 dX9_init_258 rfl hinX9 (by decide) w_1022 (Or.inr ⟨rfl, rfl, rfl⟩) (tyX9_ok 31 (by decide)) (fun _ => ⟨rfl, rfl⟩) ⟨rfl, rfl⟩ <| sn_aload_n dX9_init_261 rfl <| sn_bipush dX9_init_262 rfl <| sn_newi dX9_init_264 rfl w_154 rfl (fun _ _ h => h) rfl (by decide) <| sn_putA tyX9 tyX9_ok nmX9 dX9_init_266 rfl hinX9 (by decide) w_1023 (Or.inr ⟨rfl, rfl, rfl⟩) (tyX9_ok 32 (by decide)) (fun _ => ⟨rfl, rfl⟩) ⟨rfl, rfl⟩ <| sn_aload_n dX9_init_269 rfl <| sn_bipush dX9_init_270 rfl <| sn_newi dX9_init_272 rfl w_154 rfl (fun _ _ h => h) rfl (by decide) <| sn_putA tyX9 tyX9_ok nmX9 dX9_init_274 rfl hinX9 (by decide) w_1024 (Or.inr ⟨rfl, rfl, rfl⟩) (tyX9_ok 33 (by decide)) (fun _ => ⟨rfl, rfl⟩) ⟨rfl, rfl⟩ <| sn_aload_n dX9_init_277 rfl <| sn_bipush dX9_init_278 rfl <| sn_newi dX9_init_280 rfl w_154 rfl (fun _ _ h => h) rfl (by decide) <| sn_putA tyX9 tyX9_ok nmX9 dX9_init_282 rfl hinX9 (by decide) w_1025 (Or.inr ⟨rfl, rfl, rfl⟩) (tyX9_ok 34 (by decide)) (fun _ => ⟨rfl, rfl⟩) ⟨rfl, rfl⟩ <| sn_aload_n dX9_init_285 rfl <| sn_getf dX9_init_286 rfl hinX9 (by decide) w_991 <| sn_iconst dX9_init_289 rfl <| sn_iconst dX9_init_290 rfl <| sn_iast dX9_init_291 rfl rfl <| sn_iconst dX9_init_292 rfl <| sn_istore_n dX9_init_293 rfl (by decide) <| sn_next rfl
set_option maxRecDepth 100000 in
theorem sX9_init_1 {G : ab_G} {xs : List Int32} {d : Nat} {cal : ab_F} (hcs : ab_CS G (ab_Z G xs) ab_Mf cal d) : ab_Sd G (ab_Z G xs) (d + 1) (ab_mY mX9_init pX9_init) 294 (bX9_init_1 cal) :=
  sn_iload_n dX9_init_294 rfl <| sn_bipush dX9_init_295 rfl <| sn_cmp_ge (tg := 316) dX9_init_297 rfl rfl <| sn_aload_n dX9_init_300 rfl <| sn_getf dX9_init_301 rfl hinX9 (by decide) w_991 <| sn_iconst dX9_init_304 rfl <| sn_iload_n dX9_init_305 rfl <| sn_iadd dX9_init_306 <| sn_bipush dX9_init_307 rfl <| sn_iast dX9_init_309 rfl rfl <| sn_iinc dX9_init_310 rfl (by decide) <| sn_goto (tg := 294) dX9_init_313 rfl rfl
set_option maxRecDepth 100000 in
theorem sX9_init_2 {G : ab_G} {xs : List Int32} {d : Nat} {cal : ab_F} (hcs : ab_CS G (ab_Z G xs) ab_Mf cal d) : ab_Sd G (ab_Z G xs) (d + 1) (ab_mY mX9_init pX9_init) 316 (bX9_init_2 cal) :=
  sn_ret dX9_init_316 ab_ri_void
theorem sX9_init {G : ab_G} {xs : List Int32} {d : Nat} {cal : ab_F} (hcs : ab_CS G (ab_Z G xs) ab_Mf cal d) : ab_BS G (ab_Z G xs) (d + 1) (ab_mY mX9_init pX9_init) pX9_init (bX9_init cal) := ⟨sX9_init_0 hcs, sX9_init_1 hcs, sX9_init_2 hcs, trivial⟩
theorem dgX9_in_0 : decode cX9_in 0 = .ok (.iload_n 0, 1) ∧ decode cX9_in 1 = .ok (.iload_n 1, 1) ∧ decode cX9_in 2 = .ok (.if_icmp .lt 12, 3) ∧ decode cX9_in 5 = .ok (.iload_n 0, 1) ∧ decode cX9_in 6 = .ok (.iload_n 2, 1) ∧ decode cX9_in 7 = .ok (.if_icmp .gt 7, 3) ∧ decode cX9_in 10 = .ok (.iconst 1, 1) ∧ decode cX9_in 11 = .ok (.goto 4, 3) ∧ decode cX9_in 14 = .ok (.iconst 0, 1) ∧ decode cX9_in 15 = .ok (.ireturn, 1) := by decide +kernel
theorem dX9_in_0 : decode cX9_in 0 = .ok (.iload_n 0, 1) := dgX9_in_0.1
theorem dX9_in_1 : decode cX9_in 1 = .ok (.iload_n 1, 1) := dgX9_in_0.2.1
theorem dX9_in_2 : decode cX9_in 2 = .ok (.if_icmp .lt 12, 3) := dgX9_in_0.2.2.1
theorem dX9_in_5 : decode cX9_in 5 = .ok (.iload_n 0, 1) := dgX9_in_0.2.2.2.1
theorem dX9_in_6 : decode cX9_in 6 = .ok (.iload_n 2, 1) := dgX9_in_0.2.2.2.2.1
theorem dX9_in_7 : decode cX9_in 7 = .ok (.if_icmp .gt 7, 3) := dgX9_in_0.2.2.2.2.2.1
theorem dX9_in_10 : decode cX9_in 10 = .ok (.iconst 1, 1) := dgX9_in_0.2.2.2.2.2.2.1
theorem dX9_in_11 : decode cX9_in 11 = .ok (.goto 4, 3) := dgX9_in_0.2.2.2.2.2.2.2.1
theorem dX9_in_14 : decode cX9_in 14 = .ok (.iconst 0, 1) := dgX9_in_0.2.2.2.2.2.2.2.2.1
theorem dX9_in_15 : decode cX9_in 15 = .ok (.ireturn, 1) := dgX9_in_0.2.2.2.2.2.2.2.2.2
abbrev pX9_in : List Nat := [0, 14, 15]
def bX9_in_0 (cal : ab_F) : ab_K := o_iload 0 <| o_iload 1 <| o_cmp (fun x y => decide (x < y)) 1 <| o_iload 0 <| o_iload 2 <| o_cmp (fun x y => decide (y < x)) 1 <| o_push (.int 1) <| o_goto 2
def bX9_in_1 (cal : ab_F) : ab_K := o_push (.int 0) <| o_goto 2
def bX9_in_2 (cal : ab_F) : ab_K := o_ret (some .boolean)
def bX9_in (cal : ab_F) : List ab_K := [bX9_in_0 cal, bX9_in_1 cal, bX9_in_2 cal]
set_option maxRecDepth 100000 in
theorem sX9_in_0 {G : ab_G} {xs : List Int32} {d : Nat} {cal : ab_F} (hcs : ab_CS G (ab_Z G xs) ab_Mf cal d) : ab_Sd G (ab_Z G xs) (d + 1) (ab_mY mX9_in pX9_in) 0 (bX9_in_0 cal) :=
  sn_iload_n dX9_in_0 rfl <| sn_iload_n dX9_in_1 rfl <| sn_cmp_lt (tg := 14) dX9_in_2 rfl rfl <| sn_iload_n dX9_in_5 rfl <| sn_iload_n dX9_in_6 rfl <| sn_cmp_gt (tg := 14) dX9_in_7 rfl rfl <| sn_iconst dX9_in_10 rfl <| sn_goto (tg := 15) dX9_in_11 rfl rfl
set_option maxRecDepth 100000 in
theorem sX9_in_1 {G : ab_G} {xs : List Int32} {d : Nat} {cal : ab_F} (hcs : ab_CS G (ab_Z G xs) ab_Mf cal d) : ab_Sd G (ab_Z G xs) (d + 1) (ab_mY mX9_in pX9_in) 14 (bX9_in_1 cal) :=
  sn_iconst dX9_in_14 rfl <| sn_next rfl
set_option maxRecDepth 100000 in
theorem sX9_in_2 {G : ab_G} {xs : List Int32} {d : Nat} {cal : ab_F} (hcs : ab_CS G (ab_Z G xs) ab_Mf cal d) : ab_Sd G (ab_Z G xs) (d + 1) (ab_mY mX9_in pX9_in) 15 (bX9_in_2 cal) :=
  sn_ret dX9_in_15 ab_ri_bool
theorem sX9_in {G : ab_G} {xs : List Int32} {d : Nat} {cal : ab_F} (hcs : ab_CS G (ab_Z G xs) ab_Mf cal d) : ab_BS G (ab_Z G xs) (d + 1) (ab_mY mX9_in pX9_in) pX9_in (bX9_in cal) := ⟨sX9_in_0 hcs, sX9_in_1 hcs, sX9_in_2 hcs, trivial⟩
theorem dgX9_within_0 : decode cX9_within 0 = .ok (.iload_n 0, 1) ∧ decode cX9_within 1 = .ok (.iload_n 1, 1) ∧ decode cX9_within 2 = .ok (.if_icmp .ge 7, 3) ∧ decode cX9_within 5 = .ok (.iload_n 1, 1) ∧ decode cX9_within 6 = .ok (.goto 13, 3) ∧ decode cX9_within 9 = .ok (.iload_n 0, 1) ∧ decode cX9_within 10 = .ok (.iload_n 2, 1) ∧ decode cX9_within 11 = .ok (.if_icmp .le 7, 3) ∧ decode cX9_within 14 = .ok (.iload_n 2, 1) ∧ decode cX9_within 15 = .ok (.goto 4, 3) ∧ decode cX9_within 18 = .ok (.iload_n 0, 1) ∧ decode cX9_within 19 = .ok (.ireturn, 1) := by decide +kernel
theorem dX9_within_0 : decode cX9_within 0 = .ok (.iload_n 0, 1) := dgX9_within_0.1
theorem dX9_within_1 : decode cX9_within 1 = .ok (.iload_n 1, 1) := dgX9_within_0.2.1
theorem dX9_within_2 : decode cX9_within 2 = .ok (.if_icmp .ge 7, 3) := dgX9_within_0.2.2.1
theorem dX9_within_5 : decode cX9_within 5 = .ok (.iload_n 1, 1) := dgX9_within_0.2.2.2.1
theorem dX9_within_6 : decode cX9_within 6 = .ok (.goto 13, 3) := dgX9_within_0.2.2.2.2.1
theorem dX9_within_9 : decode cX9_within 9 = .ok (.iload_n 0, 1) := dgX9_within_0.2.2.2.2.2.1
theorem dX9_within_10 : decode cX9_within 10 = .ok (.iload_n 2, 1) := dgX9_within_0.2.2.2.2.2.2.1
theorem dX9_within_11 : decode cX9_within 11 = .ok (.if_icmp .le 7, 3) := dgX9_within_0.2.2.2.2.2.2.2.1
theorem dX9_within_14 : decode cX9_within 14 = .ok (.iload_n 2, 1) := dgX9_within_0.2.2.2.2.2.2.2.2.1
theorem dX9_within_15 : decode cX9_within 15 = .ok (.goto 4, 3) := dgX9_within_0.2.2.2.2.2.2.2.2.2.1
theorem dX9_within_18 : decode cX9_within 18 = .ok (.iload_n 0, 1) := dgX9_within_0.2.2.2.2.2.2.2.2.2.2.1
theorem dX9_within_19 : decode cX9_within 19 = .ok (.ireturn, 1) := dgX9_within_0.2.2.2.2.2.2.2.2.2.2.2
abbrev pX9_within : List Nat := [0, 9, 18, 19]
def bX9_within_0 (cal : ab_F) : ab_K := o_iload 0 <| o_iload 1 <| o_cmp (fun x y => decide (y ≤ x)) 1 <| o_iload 1 <| o_goto 3
def bX9_within_1 (cal : ab_F) : ab_K := o_iload 0 <| o_iload 2 <| o_cmp (fun x y => decide (x ≤ y)) 2 <| o_iload 2 <| o_goto 3
def bX9_within_2 (cal : ab_F) : ab_K := o_iload 0 <| o_goto 3
def bX9_within_3 (cal : ab_F) : ab_K := o_ret (some .int)
def bX9_within (cal : ab_F) : List ab_K := [bX9_within_0 cal, bX9_within_1 cal, bX9_within_2 cal, bX9_within_3 cal]
set_option maxRecDepth 100000 in
theorem sX9_within_0 {G : ab_G} {xs : List Int32} {d : Nat} {cal : ab_F} (hcs : ab_CS G (ab_Z G xs) ab_Mf cal d) : ab_Sd G (ab_Z G xs) (d + 1) (ab_mY mX9_within pX9_within) 0 (bX9_within_0 cal) :=
  sn_iload_n dX9_within_0 rfl <| sn_iload_n dX9_within_1 rfl <| sn_cmp_ge (tg := 9) dX9_within_2 rfl rfl <| sn_iload_n dX9_within_5 rfl <| sn_goto (tg := 19) dX9_within_6 rfl rfl
set_option maxRecDepth 100000 in
theorem sX9_within_1 {G : ab_G} {xs : List Int32} {d : Nat} {cal : ab_F} (hcs : ab_CS G (ab_Z G xs) ab_Mf cal d) : ab_Sd G (ab_Z G xs) (d + 1) (ab_mY mX9_within pX9_within) 9 (bX9_within_1 cal) :=
  sn_iload_n dX9_within_9 rfl <| sn_iload_n dX9_within_10 rfl <| sn_cmp_le (tg := 18) dX9_within_11 rfl rfl <| sn_iload_n dX9_within_14 rfl <| sn_goto (tg := 19) dX9_within_15 rfl rfl
set_option maxRecDepth 100000 in
theorem sX9_within_2 {G : ab_G} {xs : List Int32} {d : Nat} {cal : ab_F} (hcs : ab_CS G (ab_Z G xs) ab_Mf cal d) : ab_Sd G (ab_Z G xs) (d + 1) (ab_mY mX9_within pX9_within) 18 (bX9_within_2 cal) :=
  sn_iload_n dX9_within_18 rfl <| sn_next rfl
set_option maxRecDepth 100000 in
theorem sX9_within_3 {G : ab_G} {xs : List Int32} {d : Nat} {cal : ab_F} (hcs : ab_CS G (ab_Z G xs) ab_Mf cal d) : ab_Sd G (ab_Z G xs) (d + 1) (ab_mY mX9_within pX9_within) 19 (bX9_within_3 cal) :=
  sn_ret dX9_within_19 ab_ri_int
theorem sX9_within {G : ab_G} {xs : List Int32} {d : Nat} {cal : ab_F} (hcs : ab_CS G (ab_Z G xs) ab_Mf cal d) : ab_BS G (ab_Z G xs) (d + 1) (ab_mY mX9_within pX9_within) pX9_within (bX9_within cal) := ⟨sX9_within_0 hcs, sX9_within_1 hcs, sX9_within_2 hcs, sX9_within_3 hcs, trivial⟩
theorem dgX9_apart_0 : decode cX9_apart 0 = .ok (.iload_n 0, 1) ∧ decode cX9_apart 1 = .ok (.iload_n 1, 1) ∧ decode cX9_apart 2 = .ok (.if_icmp .ge 9, 3) ∧ decode cX9_apart 5 = .ok (.iload_n 1, 1) ∧ decode cX9_apart 6 = .ok (.iload_n 0, 1) ∧ decode cX9_apart 7 = .ok (.isub, 1) ∧ decode cX9_apart 8 = .ok (.goto 6, 3) ∧ decode cX9_apart 11 = .ok (.iload_n 0, 1) ∧ decode cX9_apart 12 = .ok (.iload_n 1, 1) ∧ decode cX9_apart 13 = .ok (.isub, 1) ∧ decode cX9_apart 14 = .ok (.ireturn, 1) := by decide +kernel
theorem dX9_apart_0 : decode cX9_apart 0 = .ok (.iload_n 0, 1) := dgX9_apart_0.1
theorem dX9_apart_1 : decode cX9_apart 1 = .ok (.iload_n 1, 1) := dgX9_apart_0.2.1
theorem dX9_apart_2 : decode cX9_apart 2 = .ok (.if_icmp .ge 9, 3) := dgX9_apart_0.2.2.1
theorem dX9_apart_5 : decode cX9_apart 5 = .ok (.iload_n 1, 1) := dgX9_apart_0.2.2.2.1
theorem dX9_apart_6 : decode cX9_apart 6 = .ok (.iload_n 0, 1) := dgX9_apart_0.2.2.2.2.1
theorem dX9_apart_7 : decode cX9_apart 7 = .ok (.isub, 1) := dgX9_apart_0.2.2.2.2.2.1
theorem dX9_apart_8 : decode cX9_apart 8 = .ok (.goto 6, 3) := dgX9_apart_0.2.2.2.2.2.2.1
theorem dX9_apart_11 : decode cX9_apart 11 = .ok (.iload_n 0, 1) := dgX9_apart_0.2.2.2.2.2.2.2.1
theorem dX9_apart_12 : decode cX9_apart 12 = .ok (.iload_n 1, 1) := dgX9_apart_0.2.2.2.2.2.2.2.2.1
theorem dX9_apart_13 : decode cX9_apart 13 = .ok (.isub, 1) := dgX9_apart_0.2.2.2.2.2.2.2.2.2.1
theorem dX9_apart_14 : decode cX9_apart 14 = .ok (.ireturn, 1) := dgX9_apart_0.2.2.2.2.2.2.2.2.2.2
abbrev pX9_apart : List Nat := [0, 11, 14]
def bX9_apart_0 (cal : ab_F) : ab_K := o_iload 0 <| o_iload 1 <| o_cmp (fun x y => decide (y ≤ x)) 1 <| o_iload 1 <| o_iload 0 <| o_bin (fun x y => x - y) <| o_goto 2
def bX9_apart_1 (cal : ab_F) : ab_K := o_iload 0 <| o_iload 1 <| o_bin (fun x y => x - y) <| o_goto 2
def bX9_apart_2 (cal : ab_F) : ab_K := o_ret (some .int)
def bX9_apart (cal : ab_F) : List ab_K := [bX9_apart_0 cal, bX9_apart_1 cal, bX9_apart_2 cal]
set_option maxRecDepth 100000 in
theorem sX9_apart_0 {G : ab_G} {xs : List Int32} {d : Nat} {cal : ab_F} (hcs : ab_CS G (ab_Z G xs) ab_Mf cal d) : ab_Sd G (ab_Z G xs) (d + 1) (ab_mY mX9_apart pX9_apart) 0 (bX9_apart_0 cal) :=
  sn_iload_n dX9_apart_0 rfl <| sn_iload_n dX9_apart_1 rfl <| sn_cmp_ge (tg := 11) dX9_apart_2 rfl rfl <| sn_iload_n dX9_apart_5 rfl <| sn_iload_n dX9_apart_6 rfl <| sn_isub dX9_apart_7 <| sn_goto (tg := 14) dX9_apart_8 rfl rfl
set_option maxRecDepth 100000 in
theorem sX9_apart_1 {G : ab_G} {xs : List Int32} {d : Nat} {cal : ab_F} (hcs : ab_CS G (ab_Z G xs) ab_Mf cal d) : ab_Sd G (ab_Z G xs) (d + 1) (ab_mY mX9_apart pX9_apart) 11 (bX9_apart_1 cal) :=
  sn_iload_n dX9_apart_11 rfl <| sn_iload_n dX9_apart_12 rfl <| sn_isub dX9_apart_13 <| sn_next rfl
set_option maxRecDepth 100000 in
theorem sX9_apart_2 {G : ab_G} {xs : List Int32} {d : Nat} {cal : ab_F} (hcs : ab_CS G (ab_Z G xs) ab_Mf cal d) : ab_Sd G (ab_Z G xs) (d + 1) (ab_mY mX9_apart pX9_apart) 14 (bX9_apart_2 cal) :=
  sn_ret dX9_apart_14 ab_ri_int
theorem sX9_apart {G : ab_G} {xs : List Int32} {d : Nat} {cal : ab_F} (hcs : ab_CS G (ab_Z G xs) ab_Mf cal d) : ab_BS G (ab_Z G xs) (d + 1) (ab_mY mX9_apart pX9_apart) pX9_apart (bX9_apart cal) := ⟨sX9_apart_0 hcs, sX9_apart_1 hcs, sX9_apart_2 hcs, trivial⟩
theorem dgX9_copyAll_0 : decode cX9_copyAll 0 = .ok (.iconst 0, 1) ∧ decode cX9_copyAll 1 = .ok (.istore_n 2, 1) ∧ decode cX9_copyAll 2 = .ok (.iload_n 2, 1) ∧ decode cX9_copyAll 3 = .ok (.sipush 1461, 3) ∧ decode cX9_copyAll 6 = .ok (.if_icmp .ge 15, 3) ∧ decode cX9_copyAll 9 = .ok (.aload_n 1, 1) ∧ decode cX9_copyAll 10 = .ok (.iload_n 2, 1) ∧ decode cX9_copyAll 11 = .ok (.aload_n 0, 1) ∧ decode cX9_copyAll 12 = .ok (.iload_n 2, 1) ∧ decode cX9_copyAll 13 = .ok (.iaload, 1) ∧ decode cX9_copyAll 14 = .ok (.iastore, 1) ∧ decode cX9_copyAll 15 = .ok (.iinc 2 1, 3) ∧ decode cX9_copyAll 18 = .ok (.goto (-16), 3) ∧ decode cX9_copyAll 21 = .ok (.return_, 1) := by decide +kernel
theorem dX9_copyAll_0 : decode cX9_copyAll 0 = .ok (.iconst 0, 1) := dgX9_copyAll_0.1
theorem dX9_copyAll_1 : decode cX9_copyAll 1 = .ok (.istore_n 2, 1) := dgX9_copyAll_0.2.1
theorem dX9_copyAll_2 : decode cX9_copyAll 2 = .ok (.iload_n 2, 1) := dgX9_copyAll_0.2.2.1
theorem dX9_copyAll_3 : decode cX9_copyAll 3 = .ok (.sipush 1461, 3) := dgX9_copyAll_0.2.2.2.1
theorem dX9_copyAll_6 : decode cX9_copyAll 6 = .ok (.if_icmp .ge 15, 3) := dgX9_copyAll_0.2.2.2.2.1
theorem dX9_copyAll_9 : decode cX9_copyAll 9 = .ok (.aload_n 1, 1) := dgX9_copyAll_0.2.2.2.2.2.1
theorem dX9_copyAll_10 : decode cX9_copyAll 10 = .ok (.iload_n 2, 1) := dgX9_copyAll_0.2.2.2.2.2.2.1
theorem dX9_copyAll_11 : decode cX9_copyAll 11 = .ok (.aload_n 0, 1) := dgX9_copyAll_0.2.2.2.2.2.2.2.1
theorem dX9_copyAll_12 : decode cX9_copyAll 12 = .ok (.iload_n 2, 1) := dgX9_copyAll_0.2.2.2.2.2.2.2.2.1
theorem dX9_copyAll_13 : decode cX9_copyAll 13 = .ok (.iaload, 1) := dgX9_copyAll_0.2.2.2.2.2.2.2.2.2.1
theorem dX9_copyAll_14 : decode cX9_copyAll 14 = .ok (.iastore, 1) := dgX9_copyAll_0.2.2.2.2.2.2.2.2.2.2.1
theorem dX9_copyAll_15 : decode cX9_copyAll 15 = .ok (.iinc 2 1, 3) := dgX9_copyAll_0.2.2.2.2.2.2.2.2.2.2.2.1
theorem dX9_copyAll_18 : decode cX9_copyAll 18 = .ok (.goto (-16), 3) := dgX9_copyAll_0.2.2.2.2.2.2.2.2.2.2.2.2.1
theorem dX9_copyAll_21 : decode cX9_copyAll 21 = .ok (.return_, 1) := dgX9_copyAll_0.2.2.2.2.2.2.2.2.2.2.2.2.2
abbrev pX9_copyAll : List Nat := [0, 2, 21]
def bX9_copyAll_0 (cal : ab_F) : ab_K := o_push (.int 0) <| o_istore 2 <| o_goto 1
def bX9_copyAll_1 (cal : ab_F) : ab_K := o_iload 2 <| o_push (.int 1461) <| o_cmp (fun x y => decide (y ≤ x)) 2 <| o_aload 1 <| o_iload 2 <| o_aload 0 <| o_iload 2 <| o_iald 0 <| o_iast 0 (fun x => x) <| o_iinc 2 1 <| o_goto 1
def bX9_copyAll_2 (cal : ab_F) : ab_K := o_ret none
def bX9_copyAll (cal : ab_F) : List ab_K := [bX9_copyAll_0 cal, bX9_copyAll_1 cal, bX9_copyAll_2 cal]
set_option maxRecDepth 100000 in
theorem sX9_copyAll_0 {G : ab_G} {xs : List Int32} {d : Nat} {cal : ab_F} (hcs : ab_CS G (ab_Z G xs) ab_Mf cal d) : ab_Sd G (ab_Z G xs) (d + 1) (ab_mY mX9_copyAll pX9_copyAll) 0 (bX9_copyAll_0 cal) :=
  sn_iconst dX9_copyAll_0 rfl <| sn_istore_n dX9_copyAll_1 rfl (by decide) <| sn_next rfl
set_option maxRecDepth 100000 in
theorem sX9_copyAll_1 {G : ab_G} {xs : List Int32} {d : Nat} {cal : ab_F} (hcs : ab_CS G (ab_Z G xs) ab_Mf cal d) : ab_Sd G (ab_Z G xs) (d + 1) (ab_mY mX9_copyAll pX9_copyAll) 2 (bX9_copyAll_1 cal) :=
  sn_iload_n dX9_copyAll_2 rfl <| sn_sipush dX9_copyAll_3 rfl <| sn_cmp_ge (tg := 21) dX9_copyAll_6 rfl rfl <| sn_aload_n dX9_copyAll_9 rfl <| sn_iload_n dX9_copyAll_10 rfl <| sn_aload_n dX9_copyAll_11 rfl <| sn_iload_n dX9_copyAll_12 rfl <| sn_iald dX9_copyAll_13 rfl <| sn_iast dX9_copyAll_14 rfl rfl <| sn_iinc dX9_copyAll_15 rfl (by decide) <| sn_goto (tg := 2) dX9_copyAll_18 rfl rfl
set_option maxRecDepth 100000 in
theorem sX9_copyAll_2 {G : ab_G} {xs : List Int32} {d : Nat} {cal : ab_F} (hcs : ab_CS G (ab_Z G xs) ab_Mf cal d) : ab_Sd G (ab_Z G xs) (d + 1) (ab_mY mX9_copyAll pX9_copyAll) 21 (bX9_copyAll_2 cal) :=
  sn_ret dX9_copyAll_21 ab_ri_void
theorem sX9_copyAll {G : ab_G} {xs : List Int32} {d : Nat} {cal : ab_F} (hcs : ab_CS G (ab_Z G xs) ab_Mf cal d) : ab_BS G (ab_Z G xs) (d + 1) (ab_mY mX9_copyAll pX9_copyAll) pX9_copyAll (bX9_copyAll cal) := ⟨sX9_copyAll_0 hcs, sX9_copyAll_1 hcs, sX9_copyAll_2 hcs, trivial⟩
theorem dgX9_told0_0 : decode cX9_told0 0 = .ok (.iload_n 0, 1) ∧ decode cX9_told0 1 = .ok (.ifCond .ge 8, 3) ∧ decode cX9_told0 4 = .ok (.ldc 85, 2) ∧ decode cX9_told0 6 = .ok (.goto 4, 3) ∧ decode cX9_told0 9 = .ok (.iload_n 0, 1) ∧ decode cX9_told0 10 = .ok (.ireturn, 1) := by decide +kernel
theorem dX9_told0_0 : decode cX9_told0 0 = .ok (.iload_n 0, 1) := dgX9_told0_0.1
theorem dX9_told0_1 : decode cX9_told0 1 = .ok (.ifCond .ge 8, 3) := dgX9_told0_0.2.1
theorem dX9_told0_4 : decode cX9_told0 4 = .ok (.ldc 85, 2) := dgX9_told0_0.2.2.1
theorem dX9_told0_6 : decode cX9_told0 6 = .ok (.goto 4, 3) := dgX9_told0_0.2.2.2.1
theorem dX9_told0_9 : decode cX9_told0 9 = .ok (.iload_n 0, 1) := dgX9_told0_0.2.2.2.2.1
theorem dX9_told0_10 : decode cX9_told0 10 = .ok (.ireturn, 1) := dgX9_told0_0.2.2.2.2.2
abbrev pX9_told0 : List Nat := [0, 9, 10]
def bX9_told0_0 (cal : ab_F) : ab_K := o_iload 0 <| o_if (fun x => decide (0 ≤ x)) 1 <| o_push (.int (-1000000005)) <| o_goto 2
def bX9_told0_1 (cal : ab_F) : ab_K := o_iload 0 <| o_goto 2
def bX9_told0_2 (cal : ab_F) : ab_K := o_ret (some .int)
def bX9_told0 (cal : ab_F) : List ab_K := [bX9_told0_0 cal, bX9_told0_1 cal, bX9_told0_2 cal]
set_option maxRecDepth 100000 in
theorem sX9_told0_0 {G : ab_G} {xs : List Int32} {d : Nat} {cal : ab_F} (hcs : ab_CS G (ab_Z G xs) ab_Mf cal d) : ab_Sd G (ab_Z G xs) (d + 1) (ab_mY mX9_told0 pX9_told0) 0 (bX9_told0_0 cal) :=
  sn_iload_n dX9_told0_0 rfl <| sn_if_ge (tg := 9) dX9_told0_1 rfl rfl <| sn_ldc dX9_told0_4 w_1260 <| sn_goto (tg := 10) dX9_told0_6 rfl rfl
set_option maxRecDepth 100000 in
theorem sX9_told0_1 {G : ab_G} {xs : List Int32} {d : Nat} {cal : ab_F} (hcs : ab_CS G (ab_Z G xs) ab_Mf cal d) : ab_Sd G (ab_Z G xs) (d + 1) (ab_mY mX9_told0 pX9_told0) 9 (bX9_told0_1 cal) :=
  sn_iload_n dX9_told0_9 rfl <| sn_next rfl
set_option maxRecDepth 100000 in
theorem sX9_told0_2 {G : ab_G} {xs : List Int32} {d : Nat} {cal : ab_F} (hcs : ab_CS G (ab_Z G xs) ab_Mf cal d) : ab_Sd G (ab_Z G xs) (d + 1) (ab_mY mX9_told0 pX9_told0) 10 (bX9_told0_2 cal) :=
  sn_ret dX9_told0_10 ab_ri_int
theorem sX9_told0 {G : ab_G} {xs : List Int32} {d : Nat} {cal : ab_F} (hcs : ab_CS G (ab_Z G xs) ab_Mf cal d) : ab_BS G (ab_Z G xs) (d + 1) (ab_mY mX9_told0 pX9_told0) pX9_told0 (bX9_told0 cal) := ⟨sX9_told0_0 hcs, sX9_told0_1 hcs, sX9_told0_2 hcs, trivial⟩
theorem dgX9_isStone_0 : decode cX9_isStone 0 = .ok (.iload_n 1, 1) ∧ decode cX9_isStone 1 = .ok (.iconst 0, 1) ∧ decode cX9_isStone 2 = .ok (.aload_n 0, 1) ∧ decode cX9_isStone 3 = .ok (.getfield 9, 3) ∧ decode cX9_isStone 6 = .ok (.iconst 1, 1) ∧ decode cX9_isStone 7 = .ok (.iaload, 1) ∧ decode cX9_isStone 8 = .ok (.iconst 1, 1) ∧ decode cX9_isStone 9 = .ok (.isub, 1) ∧ decode cX9_isStone 10 = .ok (.invokestatic 86, 3) ∧ decode cX9_isStone 13 = .ok (.ireturn, 1) := by decide +kernel
theorem dX9_isStone_0 : decode cX9_isStone 0 = .ok (.iload_n 1, 1) := dgX9_isStone_0.1
theorem dX9_isStone_1 : decode cX9_isStone 1 = .ok (.iconst 0, 1) := dgX9_isStone_0.2.1
theorem dX9_isStone_2 : decode cX9_isStone 2 = .ok (.aload_n 0, 1) := dgX9_isStone_0.2.2.1
theorem dX9_isStone_3 : decode cX9_isStone 3 = .ok (.getfield 9, 3) := dgX9_isStone_0.2.2.2.1
theorem dX9_isStone_6 : decode cX9_isStone 6 = .ok (.iconst 1, 1) := dgX9_isStone_0.2.2.2.2.1
theorem dX9_isStone_7 : decode cX9_isStone 7 = .ok (.iaload, 1) := dgX9_isStone_0.2.2.2.2.2.1
theorem dX9_isStone_8 : decode cX9_isStone 8 = .ok (.iconst 1, 1) := dgX9_isStone_0.2.2.2.2.2.2.1
theorem dX9_isStone_9 : decode cX9_isStone 9 = .ok (.isub, 1) := dgX9_isStone_0.2.2.2.2.2.2.2.1
theorem dX9_isStone_10 : decode cX9_isStone 10 = .ok (.invokestatic 86, 3) := dgX9_isStone_0.2.2.2.2.2.2.2.2.1
theorem dX9_isStone_13 : decode cX9_isStone 13 = .ok (.ireturn, 1) := dgX9_isStone_0.2.2.2.2.2.2.2.2.2
abbrev pX9_isStone : List Nat := [0]
def bX9_isStone_0 (cal : ab_F) : ab_K := o_iload 1 <| o_push (.int 0) <| o_aload 0 <| o_getf 8 0 <| o_push (.int 1) <| o_iald 0 <| o_push (.int 1) <| o_bin (fun x y => x - y) <| o_callS cal 128 3 <| o_ret (some .boolean)
def bX9_isStone (cal : ab_F) : List ab_K := [bX9_isStone_0 cal]
set_option maxRecDepth 100000 in
theorem sX9_isStone_0 {G : ab_G} {xs : List Int32} {d : Nat} {cal : ab_F} (hcs : ab_CS G (ab_Z G xs) ab_Mf cal d) : ab_Sd G (ab_Z G xs) (d + 1) (ab_mY mX9_isStone pX9_isStone) 0 (bX9_isStone_0 cal) :=
  sn_iload_n dX9_isStone_0 rfl <| sn_iconst dX9_isStone_1 rfl <| sn_aload_n dX9_isStone_2 rfl <| sn_getf dX9_isStone_3 rfl hinX9 (by decide) w_991 <| sn_iconst dX9_isStone_6 rfl <| sn_iald dX9_isStone_7 rfl <| sn_iconst dX9_isStone_8 rfl <| sn_isub dX9_isStone_9 <| sq_callS mt_128 hcs dX9_isStone_10 w_1106 w_1107 w_63 w_1108 hy_128 hm_128 <| sn_ret dX9_isStone_13 ab_ri_bool
theorem sX9_isStone {G : ab_G} {xs : List Int32} {d : Nat} {cal : ab_F} (hcs : ab_CS G (ab_Z G xs) ab_Mf cal d) : ab_BS G (ab_Z G xs) (d + 1) (ab_mY mX9_isStone pX9_isStone) pX9_isStone (bX9_isStone cal) := ⟨sX9_isStone_0 hcs, trivial⟩
theorem dgX9_isPlace_0 : decode cX9_isPlace 0 = .ok (.iload_n 0, 1) ∧ decode cX9_isPlace 1 = .ok (.iconst 0, 1) ∧ decode cX9_isPlace 2 = .ok (.bipush 11, 2) ∧ decode cX9_isPlace 4 = .ok (.invokestatic 86, 3) ∧ decode cX9_isPlace 7 = .ok (.ireturn, 1) := by decide +kernel
theorem dX9_isPlace_0 : decode cX9_isPlace 0 = .ok (.iload_n 0, 1) := dgX9_isPlace_0.1
theorem dX9_isPlace_1 : decode cX9_isPlace 1 = .ok (.iconst 0, 1) := dgX9_isPlace_0.2.1
theorem dX9_isPlace_2 : decode cX9_isPlace 2 = .ok (.bipush 11, 2) := dgX9_isPlace_0.2.2.1
theorem dX9_isPlace_4 : decode cX9_isPlace 4 = .ok (.invokestatic 86, 3) := dgX9_isPlace_0.2.2.2.1
theorem dX9_isPlace_7 : decode cX9_isPlace 7 = .ok (.ireturn, 1) := dgX9_isPlace_0.2.2.2.2
abbrev pX9_isPlace : List Nat := [0]
def bX9_isPlace_0 (cal : ab_F) : ab_K := o_iload 0 <| o_push (.int 0) <| o_push (.int 11) <| o_callS cal 128 3 <| o_ret (some .boolean)
def bX9_isPlace (cal : ab_F) : List ab_K := [bX9_isPlace_0 cal]
set_option maxRecDepth 100000 in
theorem sX9_isPlace_0 {G : ab_G} {xs : List Int32} {d : Nat} {cal : ab_F} (hcs : ab_CS G (ab_Z G xs) ab_Mf cal d) : ab_Sd G (ab_Z G xs) (d + 1) (ab_mY mX9_isPlace pX9_isPlace) 0 (bX9_isPlace_0 cal) :=
  sn_iload_n dX9_isPlace_0 rfl <| sn_iconst dX9_isPlace_1 rfl <| sn_bipush dX9_isPlace_2 rfl <| sq_callS mt_128 hcs dX9_isPlace_4 w_1106 w_1107 w_63 w_1108 hy_128 hm_128 <| sn_ret dX9_isPlace_7 ab_ri_bool
theorem sX9_isPlace {G : ab_G} {xs : List Int32} {d : Nat} {cal : ab_F} (hcs : ab_CS G (ab_Z G xs) ab_Mf cal d) : ab_BS G (ab_Z G xs) (d + 1) (ab_mY mX9_isPlace pX9_isPlace) pX9_isPlace (bX9_isPlace cal) := ⟨sX9_isPlace_0 hcs, trivial⟩
theorem dgX9_of_0 : decode cX9_of 0 = .ok (.aload_n 0, 1) ∧ decode cX9_of 1 = .ok (.getfield 9, 3) ∧ decode cX9_of 4 = .ok (.bipush 29, 2) ∧ decode cX9_of 6 = .ok (.iconst 5, 1) ∧ decode cX9_of 7 = .ok (.iload_n 1, 1) ∧ decode cX9_of 8 = .ok (.imul, 1) ∧ decode cX9_of 9 = .ok (.iadd, 1) ∧ decode cX9_of 10 = .ok (.iload_n 2, 1) ∧ decode cX9_of 11 = .ok (.iadd, 1) ∧ decode cX9_of 12 = .ok (.iaload, 1) ∧ decode cX9_of 13 = .ok (.ireturn, 1) := by decide +kernel
theorem dX9_of_0 : decode cX9_of 0 = .ok (.aload_n 0, 1) := dgX9_of_0.1
theorem dX9_of_1 : decode cX9_of 1 = .ok (.getfield 9, 3) := dgX9_of_0.2.1
theorem dX9_of_4 : decode cX9_of 4 = .ok (.bipush 29, 2) := dgX9_of_0.2.2.1
theorem dX9_of_6 : decode cX9_of 6 = .ok (.iconst 5, 1) := dgX9_of_0.2.2.2.1
theorem dX9_of_7 : decode cX9_of 7 = .ok (.iload_n 1, 1) := dgX9_of_0.2.2.2.2.1
theorem dX9_of_8 : decode cX9_of 8 = .ok (.imul, 1) := dgX9_of_0.2.2.2.2.2.1
theorem dX9_of_9 : decode cX9_of 9 = .ok (.iadd, 1) := dgX9_of_0.2.2.2.2.2.2.1
theorem dX9_of_10 : decode cX9_of 10 = .ok (.iload_n 2, 1) := dgX9_of_0.2.2.2.2.2.2.2.1
theorem dX9_of_11 : decode cX9_of 11 = .ok (.iadd, 1) := dgX9_of_0.2.2.2.2.2.2.2.2.1
theorem dX9_of_12 : decode cX9_of 12 = .ok (.iaload, 1) := dgX9_of_0.2.2.2.2.2.2.2.2.2.1
theorem dX9_of_13 : decode cX9_of 13 = .ok (.ireturn, 1) := dgX9_of_0.2.2.2.2.2.2.2.2.2.2
abbrev pX9_of : List Nat := [0]
def bX9_of_0 (cal : ab_F) : ab_K := o_aload 0 <| o_getf 8 0 <| o_push (.int 29) <| o_push (.int 5) <| o_iload 1 <| o_bin (fun x y => x * y) <| o_bin (fun x y => x + y) <| o_iload 2 <| o_bin (fun x y => x + y) <| o_iald 0 <| o_ret (some .int)
def bX9_of (cal : ab_F) : List ab_K := [bX9_of_0 cal]
set_option maxRecDepth 100000 in
theorem sX9_of_0 {G : ab_G} {xs : List Int32} {d : Nat} {cal : ab_F} (hcs : ab_CS G (ab_Z G xs) ab_Mf cal d) : ab_Sd G (ab_Z G xs) (d + 1) (ab_mY mX9_of pX9_of) 0 (bX9_of_0 cal) :=
  sn_aload_n dX9_of_0 rfl <| sn_getf dX9_of_1 rfl hinX9 (by decide) w_991 <| sn_bipush dX9_of_4 rfl <| sn_iconst dX9_of_6 rfl <| sn_iload_n dX9_of_7 rfl <| sn_imul dX9_of_8 <| sn_iadd dX9_of_9 <| sn_iload_n dX9_of_10 rfl <| sn_iadd dX9_of_11 <| sn_iald dX9_of_12 rfl <| sn_ret dX9_of_13 ab_ri_int
theorem sX9_of {G : ab_G} {xs : List Int32} {d : Nat} {cal : ab_F} (hcs : ab_CS G (ab_Z G xs) ab_Mf cal d) : ab_BS G (ab_Z G xs) (d + 1) (ab_mY mX9_of pX9_of) pX9_of (bX9_of cal) := ⟨sX9_of_0 hcs, trivial⟩
theorem dgX9_becomes_0 : decode cX9_becomes 0 = .ok (.aload_n 0, 1) ∧ decode cX9_becomes 1 = .ok (.getfield 9, 3) ∧ decode cX9_becomes 4 = .ok (.iload_n 1, 1) ∧ decode cX9_becomes 5 = .ok (.iaload, 1) ∧ decode cX9_becomes 6 = .ok (.istore_n 3, 1) ∧ decode cX9_becomes 7 = .ok (.aload_n 0, 1) ∧ decode cX9_becomes 8 = .ok (.getfield 9, 3) ∧ decode cX9_becomes 11 = .ok (.iload_n 1, 1) ∧ decode cX9_becomes 12 = .ok (.iload_n 2, 1) ∧ decode cX9_becomes 13 = .ok (.iastore, 1) ∧ decode cX9_becomes 14 = .ok (.iload_n 3, 1) ∧ decode cX9_becomes 15 = .ok (.ireturn, 1) := by decide +kernel
theorem dX9_becomes_0 : decode cX9_becomes 0 = .ok (.aload_n 0, 1) := dgX9_becomes_0.1
theorem dX9_becomes_1 : decode cX9_becomes 1 = .ok (.getfield 9, 3) := dgX9_becomes_0.2.1
theorem dX9_becomes_4 : decode cX9_becomes 4 = .ok (.iload_n 1, 1) := dgX9_becomes_0.2.2.1
theorem dX9_becomes_5 : decode cX9_becomes 5 = .ok (.iaload, 1) := dgX9_becomes_0.2.2.2.1
theorem dX9_becomes_6 : decode cX9_becomes 6 = .ok (.istore_n 3, 1) := dgX9_becomes_0.2.2.2.2.1
theorem dX9_becomes_7 : decode cX9_becomes 7 = .ok (.aload_n 0, 1) := dgX9_becomes_0.2.2.2.2.2.1
theorem dX9_becomes_8 : decode cX9_becomes 8 = .ok (.getfield 9, 3) := dgX9_becomes_0.2.2.2.2.2.2.1
theorem dX9_becomes_11 : decode cX9_becomes 11 = .ok (.iload_n 1, 1) := dgX9_becomes_0.2.2.2.2.2.2.2.1
theorem dX9_becomes_12 : decode cX9_becomes 12 = .ok (.iload_n 2, 1) := dgX9_becomes_0.2.2.2.2.2.2.2.2.1
theorem dX9_becomes_13 : decode cX9_becomes 13 = .ok (.iastore, 1) := dgX9_becomes_0.2.2.2.2.2.2.2.2.2.1
theorem dX9_becomes_14 : decode cX9_becomes 14 = .ok (.iload_n 3, 1) := dgX9_becomes_0.2.2.2.2.2.2.2.2.2.2.1
theorem dX9_becomes_15 : decode cX9_becomes 15 = .ok (.ireturn, 1) := dgX9_becomes_0.2.2.2.2.2.2.2.2.2.2.2
abbrev pX9_becomes : List Nat := [0]
def bX9_becomes_0 (cal : ab_F) : ab_K := o_aload 0 <| o_getf 8 0 <| o_iload 1 <| o_iald 0 <| o_istore 3 <| o_aload 0 <| o_getf 8 0 <| o_iload 1 <| o_iload 2 <| o_iast 0 (fun x => x) <| o_iload 3 <| o_ret (some .int)
def bX9_becomes (cal : ab_F) : List ab_K := [bX9_becomes_0 cal]
set_option maxRecDepth 100000 in
theorem sX9_becomes_0 {G : ab_G} {xs : List Int32} {d : Nat} {cal : ab_F} (hcs : ab_CS G (ab_Z G xs) ab_Mf cal d) : ab_Sd G (ab_Z G xs) (d + 1) (ab_mY mX9_becomes pX9_becomes) 0 (bX9_becomes_0 cal) :=
  sn_aload_n dX9_becomes_0 rfl <| sn_getf dX9_becomes_1 rfl hinX9 (by decide) w_991 <| sn_iload_n dX9_becomes_4 rfl <| sn_iald dX9_becomes_5 rfl <| sn_istore_n dX9_becomes_6 rfl (by decide) <| sn_aload_n dX9_becomes_7 rfl <| sn_getf dX9_becomes_8 rfl hinX9 (by decide) w_991 <| sn_iload_n dX9_becomes_11 rfl <| sn_iload_n dX9_becomes_12 rfl <| sn_iast dX9_becomes_13 rfl rfl <| sn_iload_n dX9_becomes_14 rfl <| sn_ret dX9_becomes_15 ab_ri_int
theorem sX9_becomes {G : ab_G} {xs : List Int32} {d : Nat} {cal : ab_F} (hcs : ab_CS G (ab_Z G xs) ab_Mf cal d) : ab_BS G (ab_Z G xs) (d + 1) (ab_mY mX9_becomes pX9_becomes) pX9_becomes (bX9_becomes cal) := ⟨sX9_becomes_0 hcs, trivial⟩
theorem dgX9_comes_0 : decode cX9_comes 0 = .ok (.aload_n 0, 1) ∧ decode cX9_comes 1 = .ok (.getfield 9, 3) ∧ decode cX9_comes 4 = .ok (.iconst 1, 1) ∧ decode cX9_comes 5 = .ok (.iaload, 1) ∧ decode cX9_comes 6 = .ok (.istore 4, 2) ∧ decode cX9_comes 8 = .ok (.bipush 29, 2) ∧ decode cX9_comes 10 = .ok (.iconst 5, 1) ∧ decode cX9_comes 11 = .ok (.iload 4, 2) ∧ decode cX9_comes 13 = .ok (.imul, 1) ∧ decode cX9_comes 14 = .ok (.iadd, 1) ∧ decode cX9_comes 15 = .ok (.istore 5, 2) ∧ decode cX9_comes 17 = .ok (.aload_n 0, 1) ∧ decode cX9_comes 18 = .ok (.getfield 9, 3) ∧ decode cX9_comes 21 = .ok (.iload 5, 2) ∧ decode cX9_comes 23 = .ok (.iload_n 1, 1) ∧ decode cX9_comes 24 = .ok (.iastore, 1) := by decide +kernel
theorem dX9_comes_0 : decode cX9_comes 0 = .ok (.aload_n 0, 1) := dgX9_comes_0.1
theorem dX9_comes_1 : decode cX9_comes 1 = .ok (.getfield 9, 3) := dgX9_comes_0.2.1
theorem dX9_comes_4 : decode cX9_comes 4 = .ok (.iconst 1, 1) := dgX9_comes_0.2.2.1
theorem dX9_comes_5 : decode cX9_comes 5 = .ok (.iaload, 1) := dgX9_comes_0.2.2.2.1
theorem dX9_comes_6 : decode cX9_comes 6 = .ok (.istore 4, 2) := dgX9_comes_0.2.2.2.2.1
theorem dX9_comes_8 : decode cX9_comes 8 = .ok (.bipush 29, 2) := dgX9_comes_0.2.2.2.2.2.1
theorem dX9_comes_10 : decode cX9_comes 10 = .ok (.iconst 5, 1) := dgX9_comes_0.2.2.2.2.2.2.1
theorem dX9_comes_11 : decode cX9_comes 11 = .ok (.iload 4, 2) := dgX9_comes_0.2.2.2.2.2.2.2.1
theorem dX9_comes_13 : decode cX9_comes 13 = .ok (.imul, 1) := dgX9_comes_0.2.2.2.2.2.2.2.2.1
theorem dX9_comes_14 : decode cX9_comes 14 = .ok (.iadd, 1) := dgX9_comes_0.2.2.2.2.2.2.2.2.2.1
theorem dX9_comes_15 : decode cX9_comes 15 = .ok (.istore 5, 2) := dgX9_comes_0.2.2.2.2.2.2.2.2.2.2.1
theorem dX9_comes_17 : decode cX9_comes 17 = .ok (.aload_n 0, 1) := dgX9_comes_0.2.2.2.2.2.2.2.2.2.2.2.1
theorem dX9_comes_18 : decode cX9_comes 18 = .ok (.getfield 9, 3) := dgX9_comes_0.2.2.2.2.2.2.2.2.2.2.2.2.1
theorem dX9_comes_21 : decode cX9_comes 21 = .ok (.iload 5, 2) := dgX9_comes_0.2.2.2.2.2.2.2.2.2.2.2.2.2.1
theorem dX9_comes_23 : decode cX9_comes 23 = .ok (.iload_n 1, 1) := dgX9_comes_0.2.2.2.2.2.2.2.2.2.2.2.2.2.2.1
theorem dX9_comes_24 : decode cX9_comes 24 = .ok (.iastore, 1) := dgX9_comes_0.2.2.2.2.2.2.2.2.2.2.2.2.2.2.2
theorem dgX9_comes_1 : decode cX9_comes 25 = .ok (.aload_n 0, 1) ∧ decode cX9_comes 26 = .ok (.getfield 9, 3) ∧ decode cX9_comes 29 = .ok (.iload 5, 2) ∧ decode cX9_comes 31 = .ok (.iconst 1, 1) ∧ decode cX9_comes 32 = .ok (.iadd, 1) ∧ decode cX9_comes 33 = .ok (.iload_n 2, 1) ∧ decode cX9_comes 34 = .ok (.iastore, 1) ∧ decode cX9_comes 35 = .ok (.aload_n 0, 1) ∧ decode cX9_comes 36 = .ok (.getfield 9, 3) ∧ decode cX9_comes 39 = .ok (.iload 5, 2) ∧ decode cX9_comes 41 = .ok (.iconst 2, 1) ∧ decode cX9_comes 42 = .ok (.iadd, 1) ∧ decode cX9_comes 43 = .ok (.iload_n 3, 1) ∧ decode cX9_comes 44 = .ok (.iastore, 1) ∧ decode cX9_comes 45 = .ok (.aload_n 0, 1) ∧ decode cX9_comes 46 = .ok (.getfield 9, 3) := by decide +kernel
theorem dX9_comes_25 : decode cX9_comes 25 = .ok (.aload_n 0, 1) := dgX9_comes_1.1
theorem dX9_comes_26 : decode cX9_comes 26 = .ok (.getfield 9, 3) := dgX9_comes_1.2.1
theorem dX9_comes_29 : decode cX9_comes 29 = .ok (.iload 5, 2) := dgX9_comes_1.2.2.1
theorem dX9_comes_31 : decode cX9_comes 31 = .ok (.iconst 1, 1) := dgX9_comes_1.2.2.2.1
theorem dX9_comes_32 : decode cX9_comes 32 = .ok (.iadd, 1) := dgX9_comes_1.2.2.2.2.1
theorem dX9_comes_33 : decode cX9_comes 33 = .ok (.iload_n 2, 1) := dgX9_comes_1.2.2.2.2.2.1
theorem dX9_comes_34 : decode cX9_comes 34 = .ok (.iastore, 1) := dgX9_comes_1.2.2.2.2.2.2.1
theorem dX9_comes_35 : decode cX9_comes 35 = .ok (.aload_n 0, 1) := dgX9_comes_1.2.2.2.2.2.2.2.1
theorem dX9_comes_36 : decode cX9_comes 36 = .ok (.getfield 9, 3) := dgX9_comes_1.2.2.2.2.2.2.2.2.1
theorem dX9_comes_39 : decode cX9_comes 39 = .ok (.iload 5, 2) := dgX9_comes_1.2.2.2.2.2.2.2.2.2.1
theorem dX9_comes_41 : decode cX9_comes 41 = .ok (.iconst 2, 1) := dgX9_comes_1.2.2.2.2.2.2.2.2.2.2.1
theorem dX9_comes_42 : decode cX9_comes 42 = .ok (.iadd, 1) := dgX9_comes_1.2.2.2.2.2.2.2.2.2.2.2.1
theorem dX9_comes_43 : decode cX9_comes 43 = .ok (.iload_n 3, 1) := dgX9_comes_1.2.2.2.2.2.2.2.2.2.2.2.2.1
theorem dX9_comes_44 : decode cX9_comes 44 = .ok (.iastore, 1) := dgX9_comes_1.2.2.2.2.2.2.2.2.2.2.2.2.2.1
theorem dX9_comes_45 : decode cX9_comes 45 = .ok (.aload_n 0, 1) := dgX9_comes_1.2.2.2.2.2.2.2.2.2.2.2.2.2.2.1
theorem dX9_comes_46 : decode cX9_comes 46 = .ok (.getfield 9, 3) := dgX9_comes_1.2.2.2.2.2.2.2.2.2.2.2.2.2.2.2
theorem dgX9_comes_2 : decode cX9_comes 49 = .ok (.iload 5, 2) ∧ decode cX9_comes 51 = .ok (.iconst 3, 1) ∧ decode cX9_comes 52 = .ok (.iadd, 1) ∧ decode cX9_comes 53 = .ok (.bipush 12, 2) ∧ decode cX9_comes 55 = .ok (.iastore, 1) ∧ decode cX9_comes 56 = .ok (.aload_n 0, 1) ∧ decode cX9_comes 57 = .ok (.getfield 9, 3) ∧ decode cX9_comes 60 = .ok (.iload 5, 2) ∧ decode cX9_comes 62 = .ok (.iconst 4, 1) ∧ decode cX9_comes 63 = .ok (.iadd, 1) ∧ decode cX9_comes 64 = .ok (.iconst 0, 1) ∧ decode cX9_comes 65 = .ok (.iastore, 1) ∧ decode cX9_comes 66 = .ok (.aload_n 0, 1) ∧ decode cX9_comes 67 = .ok (.getfield 9, 3) ∧ decode cX9_comes 70 = .ok (.iconst 1, 1) ∧ decode cX9_comes 71 = .ok (.dup2, 1) := by decide +kernel
theorem dX9_comes_49 : decode cX9_comes 49 = .ok (.iload 5, 2) := dgX9_comes_2.1
theorem dX9_comes_51 : decode cX9_comes 51 = .ok (.iconst 3, 1) := dgX9_comes_2.2.1
theorem dX9_comes_52 : decode cX9_comes 52 = .ok (.iadd, 1) := dgX9_comes_2.2.2.1
theorem dX9_comes_53 : decode cX9_comes 53 = .ok (.bipush 12, 2) := dgX9_comes_2.2.2.2.1
theorem dX9_comes_55 : decode cX9_comes 55 = .ok (.iastore, 1) := dgX9_comes_2.2.2.2.2.1
theorem dX9_comes_56 : decode cX9_comes 56 = .ok (.aload_n 0, 1) := dgX9_comes_2.2.2.2.2.2.1
theorem dX9_comes_57 : decode cX9_comes 57 = .ok (.getfield 9, 3) := dgX9_comes_2.2.2.2.2.2.2.1
theorem dX9_comes_60 : decode cX9_comes 60 = .ok (.iload 5, 2) := dgX9_comes_2.2.2.2.2.2.2.2.1
theorem dX9_comes_62 : decode cX9_comes 62 = .ok (.iconst 4, 1) := dgX9_comes_2.2.2.2.2.2.2.2.2.1
theorem dX9_comes_63 : decode cX9_comes 63 = .ok (.iadd, 1) := dgX9_comes_2.2.2.2.2.2.2.2.2.2.1
theorem dX9_comes_64 : decode cX9_comes 64 = .ok (.iconst 0, 1) := dgX9_comes_2.2.2.2.2.2.2.2.2.2.2.1
theorem dX9_comes_65 : decode cX9_comes 65 = .ok (.iastore, 1) := dgX9_comes_2.2.2.2.2.2.2.2.2.2.2.2.1
theorem dX9_comes_66 : decode cX9_comes 66 = .ok (.aload_n 0, 1) := dgX9_comes_2.2.2.2.2.2.2.2.2.2.2.2.2.1
theorem dX9_comes_67 : decode cX9_comes 67 = .ok (.getfield 9, 3) := dgX9_comes_2.2.2.2.2.2.2.2.2.2.2.2.2.2.1
theorem dX9_comes_70 : decode cX9_comes 70 = .ok (.iconst 1, 1) := dgX9_comes_2.2.2.2.2.2.2.2.2.2.2.2.2.2.2.1
theorem dX9_comes_71 : decode cX9_comes 71 = .ok (.dup2, 1) := dgX9_comes_2.2.2.2.2.2.2.2.2.2.2.2.2.2.2.2
theorem dgX9_comes_3 : decode cX9_comes 72 = .ok (.iaload, 1) ∧ decode cX9_comes 73 = .ok (.iconst 1, 1) ∧ decode cX9_comes 74 = .ok (.iadd, 1) ∧ decode cX9_comes 75 = .ok (.iastore, 1) ∧ decode cX9_comes 76 = .ok (.iload 4, 2) ∧ decode cX9_comes 78 = .ok (.ireturn, 1) := by decide +kernel
theorem dX9_comes_72 : decode cX9_comes 72 = .ok (.iaload, 1) := dgX9_comes_3.1
theorem dX9_comes_73 : decode cX9_comes 73 = .ok (.iconst 1, 1) := dgX9_comes_3.2.1
theorem dX9_comes_74 : decode cX9_comes 74 = .ok (.iadd, 1) := dgX9_comes_3.2.2.1
theorem dX9_comes_75 : decode cX9_comes 75 = .ok (.iastore, 1) := dgX9_comes_3.2.2.2.1
theorem dX9_comes_76 : decode cX9_comes 76 = .ok (.iload 4, 2) := dgX9_comes_3.2.2.2.2.1
theorem dX9_comes_78 : decode cX9_comes 78 = .ok (.ireturn, 1) := dgX9_comes_3.2.2.2.2.2
abbrev pX9_comes : List Nat := [0]
def bX9_comes_0 (cal : ab_F) : ab_K := o_aload 0 <| o_getf 8 0 <| o_push (.int 1) <| o_iald 0 <| o_istore 4 <| o_push (.int 29) <| o_push (.int 5) <| o_iload 4 <| o_bin (fun x y => x * y) <| o_bin (fun x y => x + y) <| o_istore 5 <| o_aload 0 <| o_getf 8 0 <| o_iload 5 <| o_iload 1 <| o_iast 0 (fun x => x) <| o_aload 0 <| o_getf 8 0 <| o_iload 5 <| o_push (.int 1) <| o_bin (fun x y => x + y) <| o_iload 2 <| o_iast 0 (fun x => x) <| o_aload 0 <| o_getf 8 0 <| o_iload 5 <| o_push (.int 2) <| o_bin (fun x y => x + y) <| o_iload 3 <| o_iast 0 (fun x => x) <| o_aload 0 <| o_getf 8 0 <| o_iload 5 <| o_push (.int 3) <| o_bin (fun x y => x + y) <| o_push (.int 12) <| o_iast 0 (fun x => x) <| o_aload 0 <| o_getf 8 0 <| o_iload 5 <| o_push (.int 4) <| o_bin (fun x y => x + y) <| o_push (.int 0) <| o_iast 0 (fun x => x) <| o_aload 0 <| o_getf 8 0 <| o_push (.int 1) <| o_dup2 <| o_iald 0 <| o_push (.int 1) <| o_bin (fun x y => x + y) <| o_iast 0 (fun x => x) <| o_iload 4 <| o_ret (some .int)
def bX9_comes (cal : ab_F) : List ab_K := [bX9_comes_0 cal]
set_option maxRecDepth 100000 in
theorem sX9_comes_0 {G : ab_G} {xs : List Int32} {d : Nat} {cal : ab_F} (hcs : ab_CS G (ab_Z G xs) ab_Mf cal d) : ab_Sd G (ab_Z G xs) (d + 1) (ab_mY mX9_comes pX9_comes) 0 (bX9_comes_0 cal) :=
  sn_aload_n dX9_comes_0 rfl <| sn_getf dX9_comes_1 rfl hinX9 (by decide) w_991 <| sn_iconst dX9_comes_4 rfl <| sn_iald dX9_comes_5 rfl <| sn_istore dX9_comes_6 (by decide) <| sn_bipush dX9_comes_8 rfl <| sn_iconst dX9_comes_10 rfl <| sn_iload dX9_comes_11 <| sn_imul dX9_comes_13 <| sn_iadd dX9_comes_14 <| sn_istore dX9_comes_15 (by decide) <| sn_aload_n dX9_comes_17 rfl <| sn_getf dX9_comes_18 rfl hinX9 (by decide) w_991 <| sn_iload dX9_comes_21 <| sn_iload_n dX9_comes_23 rfl <| sn_iast dX9_comes_24 rfl rfl <| sn_aload_n dX9_comes_25 rfl <| sn_getf dX9_comes_26 rfl hinX9 (by decide) w_991 <| sn_iload dX9_comes_29 <| sn_iconst dX9_comes_31 rfl <| sn_iadd dX9_comes_32 <| sn_iload_n dX9_comes_33 rfl <| sn_iast dX9_comes_34 rfl rfl <| sn_aload_n dX9_comes_35 rfl <| sn_getf dX9_comes_36 rfl hinX9 (by decide) w_991 <| sn_iload dX9_comes_39 <| sn_iconst dX9_comes_41 rfl <| sn_iadd dX9_comes_42 <| sn_iload_n dX9_comes_43 rfl <| sn_iast dX9_comes_44 rfl rfl <| sn_aload_n dX9_comes_45 rfl <| sn_getf dX9_comes_46 rfl hinX9 (by decide) w_991 <| sn_iload dX9_comes_49 <| sn_iconst dX9_comes_51 rfl <| sn_iadd dX9_comes_52 <| sn_bipush dX9_comes_53 rfl <| sn_iast dX9_comes_55 rfl rfl <| sn_aload_n dX9_comes_56 rfl <| sn_getf dX9_comes_57 rfl hinX9 (by decide) w_991 <| sn_iload dX9_comes_60 <| sn_iconst dX9_comes_62 rfl <| sn_iadd dX9_comes_63 <| sn_iconst dX9_comes_64 rfl <| sn_iast dX9_comes_65 rfl rfl <| sn_aload_n dX9_comes_66 rfl <| sn_getf dX9_comes_67 rfl hinX9 (by decide) w_991 <| sn_iconst dX9_comes_70 rfl <| sn_dup2 dX9_comes_71 <| sn_iald dX9_comes_72 rfl <| sn_iconst dX9_comes_73 rfl <| sn_iadd dX9_comes_74 <| sn_iast dX9_comes_75 rfl rfl <| sn_iload dX9_comes_76 <| sn_ret dX9_comes_78 ab_ri_int
theorem sX9_comes {G : ab_G} {xs : List Int32} {d : Nat} {cal : ab_F} (hcs : ab_CS G (ab_Z G xs) ab_Mf cal d) : ab_BS G (ab_Z G xs) (d + 1) (ab_mY mX9_comes pX9_comes) pX9_comes (bX9_comes cal) := ⟨sX9_comes_0 hcs, trivial⟩
theorem dgX9_stone_0 : decode cX9_stone 0 = .ok (.iload_n 1, 1) ∧ decode cX9_stone 1 = .ok (.iconst 0, 1) ∧ decode cX9_stone 2 = .ok (.iconst 5, 1) ∧ decode cX9_stone 3 = .ok (.invokestatic 86, 3) ∧ decode cX9_stone 6 = .ok (.ifCond .eq 23, 3) ∧ decode cX9_stone 9 = .ok (.iload_n 2, 1) ∧ decode cX9_stone 10 = .ok (.iconst 0, 1) ∧ decode cX9_stone 11 = .ok (.bipush 6, 2) ∧ decode cX9_stone 13 = .ok (.invokestatic 86, 3) ∧ decode cX9_stone 16 = .ok (.ifCond .eq 13, 3) ∧ decode cX9_stone 19 = .ok (.iload_n 3, 1) ∧ decode cX9_stone 20 = .ok (.iconst 0, 1) ∧ decode cX9_stone 21 = .ok (.bipush 6, 2) ∧ decode cX9_stone 23 = .ok (.invokestatic 86, 3) ∧ decode cX9_stone 26 = .ok (.ifCond .ne 6, 3) ∧ decode cX9_stone 29 = .ok (.ldc 90, 2) := by decide +kernel
theorem dX9_stone_0 : decode cX9_stone 0 = .ok (.iload_n 1, 1) := dgX9_stone_0.1
theorem dX9_stone_1 : decode cX9_stone 1 = .ok (.iconst 0, 1) := dgX9_stone_0.2.1
theorem dX9_stone_2 : decode cX9_stone 2 = .ok (.iconst 5, 1) := dgX9_stone_0.2.2.1
theorem dX9_stone_3 : decode cX9_stone 3 = .ok (.invokestatic 86, 3) := dgX9_stone_0.2.2.2.1
theorem dX9_stone_6 : decode cX9_stone 6 = .ok (.ifCond .eq 23, 3) := dgX9_stone_0.2.2.2.2.1
theorem dX9_stone_9 : decode cX9_stone 9 = .ok (.iload_n 2, 1) := dgX9_stone_0.2.2.2.2.2.1
theorem dX9_stone_10 : decode cX9_stone 10 = .ok (.iconst 0, 1) := dgX9_stone_0.2.2.2.2.2.2.1
theorem dX9_stone_11 : decode cX9_stone 11 = .ok (.bipush 6, 2) := dgX9_stone_0.2.2.2.2.2.2.2.1
theorem dX9_stone_13 : decode cX9_stone 13 = .ok (.invokestatic 86, 3) := dgX9_stone_0.2.2.2.2.2.2.2.2.1
theorem dX9_stone_16 : decode cX9_stone 16 = .ok (.ifCond .eq 13, 3) := dgX9_stone_0.2.2.2.2.2.2.2.2.2.1
theorem dX9_stone_19 : decode cX9_stone 19 = .ok (.iload_n 3, 1) := dgX9_stone_0.2.2.2.2.2.2.2.2.2.2.1
theorem dX9_stone_20 : decode cX9_stone 20 = .ok (.iconst 0, 1) := dgX9_stone_0.2.2.2.2.2.2.2.2.2.2.2.1
theorem dX9_stone_21 : decode cX9_stone 21 = .ok (.bipush 6, 2) := dgX9_stone_0.2.2.2.2.2.2.2.2.2.2.2.2.1
theorem dX9_stone_23 : decode cX9_stone 23 = .ok (.invokestatic 86, 3) := dgX9_stone_0.2.2.2.2.2.2.2.2.2.2.2.2.2.1
theorem dX9_stone_26 : decode cX9_stone 26 = .ok (.ifCond .ne 6, 3) := dgX9_stone_0.2.2.2.2.2.2.2.2.2.2.2.2.2.2.1
theorem dX9_stone_29 : decode cX9_stone 29 = .ok (.ldc 90, 2) := dgX9_stone_0.2.2.2.2.2.2.2.2.2.2.2.2.2.2.2
theorem dgX9_stone_1 : decode cX9_stone 31 = .ok (.ireturn, 1) ∧ decode cX9_stone 32 = .ok (.aload_n 0, 1) ∧ decode cX9_stone 33 = .ok (.getfield 9, 3) ∧ decode cX9_stone 36 = .ok (.iconst 1, 1) ∧ decode cX9_stone 37 = .ok (.iaload, 1) ∧ decode cX9_stone 38 = .ok (.bipush 12, 2) ∧ decode cX9_stone 40 = .ok (.if_icmp .ne 8, 3) ∧ decode cX9_stone 43 = .ok (.ldc 91, 2) ∧ decode cX9_stone 45 = .ok (.goto 10, 3) ∧ decode cX9_stone 48 = .ok (.aload_n 0, 1) ∧ decode cX9_stone 49 = .ok (.iload_n 1, 1) ∧ decode cX9_stone 50 = .ok (.iload_n 2, 1) ∧ decode cX9_stone 51 = .ok (.iload_n 3, 1) ∧ decode cX9_stone 52 = .ok (.invokevirtual 92, 3) ∧ decode cX9_stone 55 = .ok (.ireturn, 1) := by decide +kernel
theorem dX9_stone_31 : decode cX9_stone 31 = .ok (.ireturn, 1) := dgX9_stone_1.1
theorem dX9_stone_32 : decode cX9_stone 32 = .ok (.aload_n 0, 1) := dgX9_stone_1.2.1
theorem dX9_stone_33 : decode cX9_stone 33 = .ok (.getfield 9, 3) := dgX9_stone_1.2.2.1
theorem dX9_stone_36 : decode cX9_stone 36 = .ok (.iconst 1, 1) := dgX9_stone_1.2.2.2.1
theorem dX9_stone_37 : decode cX9_stone 37 = .ok (.iaload, 1) := dgX9_stone_1.2.2.2.2.1
theorem dX9_stone_38 : decode cX9_stone 38 = .ok (.bipush 12, 2) := dgX9_stone_1.2.2.2.2.2.1
theorem dX9_stone_40 : decode cX9_stone 40 = .ok (.if_icmp .ne 8, 3) := dgX9_stone_1.2.2.2.2.2.2.1
theorem dX9_stone_43 : decode cX9_stone 43 = .ok (.ldc 91, 2) := dgX9_stone_1.2.2.2.2.2.2.2.1
theorem dX9_stone_45 : decode cX9_stone 45 = .ok (.goto 10, 3) := dgX9_stone_1.2.2.2.2.2.2.2.2.1
theorem dX9_stone_48 : decode cX9_stone 48 = .ok (.aload_n 0, 1) := dgX9_stone_1.2.2.2.2.2.2.2.2.2.1
theorem dX9_stone_49 : decode cX9_stone 49 = .ok (.iload_n 1, 1) := dgX9_stone_1.2.2.2.2.2.2.2.2.2.2.1
theorem dX9_stone_50 : decode cX9_stone 50 = .ok (.iload_n 2, 1) := dgX9_stone_1.2.2.2.2.2.2.2.2.2.2.2.1
theorem dX9_stone_51 : decode cX9_stone 51 = .ok (.iload_n 3, 1) := dgX9_stone_1.2.2.2.2.2.2.2.2.2.2.2.2.1
theorem dX9_stone_52 : decode cX9_stone 52 = .ok (.invokevirtual 92, 3) := dgX9_stone_1.2.2.2.2.2.2.2.2.2.2.2.2.2.1
theorem dX9_stone_55 : decode cX9_stone 55 = .ok (.ireturn, 1) := dgX9_stone_1.2.2.2.2.2.2.2.2.2.2.2.2.2.2
abbrev pX9_stone : List Nat := [0, 29, 32, 48, 55]
def bX9_stone_0 (cal : ab_F) : ab_K := o_iload 1 <| o_push (.int 0) <| o_push (.int 5) <| o_callS cal 128 3 <| o_if (fun x => decide (x = 0)) 1 <| o_iload 2 <| o_push (.int 0) <| o_push (.int 6) <| o_callS cal 128 3 <| o_if (fun x => decide (x = 0)) 1 <| o_iload 3 <| o_push (.int 0) <| o_push (.int 6) <| o_callS cal 128 3 <| o_if (fun x => decide (¬ x = 0)) 2 <| o_goto 1
def bX9_stone_1 (cal : ab_F) : ab_K := o_push (.int (-1000000001)) <| o_ret (some .int)
def bX9_stone_2 (cal : ab_F) : ab_K := o_aload 0 <| o_getf 8 0 <| o_push (.int 1) <| o_iald 0 <| o_push (.int 12) <| o_cmp (fun x y => decide (¬ x = y)) 3 <| o_push (.int (-1000000003)) <| o_goto 4
def bX9_stone_3 (cal : ab_F) : ab_K := o_aload 0 <| o_iload 1 <| o_iload 2 <| o_iload 3 <| o_callV cal 137 3 8 <| o_goto 4
def bX9_stone_4 (cal : ab_F) : ab_K := o_ret (some .int)
def bX9_stone (cal : ab_F) : List ab_K := [bX9_stone_0 cal, bX9_stone_1 cal, bX9_stone_2 cal, bX9_stone_3 cal, bX9_stone_4 cal]
set_option maxRecDepth 100000 in
theorem sX9_stone_0 {G : ab_G} {xs : List Int32} {d : Nat} {cal : ab_F} (hcs : ab_CS G (ab_Z G xs) ab_Mf cal d) : ab_Sd G (ab_Z G xs) (d + 1) (ab_mY mX9_stone pX9_stone) 0 (bX9_stone_0 cal) :=
  sn_iload_n dX9_stone_0 rfl <| sn_iconst dX9_stone_1 rfl <| sn_iconst dX9_stone_2 rfl <| sq_callS mt_128 hcs dX9_stone_3 w_1106 w_1107 w_63 w_1108 hy_128 hm_128 <| sn_if_eq (tg := 29) dX9_stone_6 rfl rfl <| sn_iload_n dX9_stone_9 rfl <| sn_iconst dX9_stone_10 rfl <| sn_bipush dX9_stone_11 rfl <| sq_callS mt_128 hcs dX9_stone_13 w_1106 w_1107 w_63 w_1108 hy_128 hm_128 <| sn_if_eq (tg := 29) dX9_stone_16 rfl rfl <| sn_iload_n dX9_stone_19 rfl <| sn_iconst dX9_stone_20 rfl <| sn_bipush dX9_stone_21 rfl <| sq_callS mt_128 hcs dX9_stone_23 w_1106 w_1107 w_63 w_1108 hy_128 hm_128 <| sn_if_ne (tg := 32) dX9_stone_26 rfl rfl <| sn_next rfl
set_option maxRecDepth 100000 in
theorem sX9_stone_1 {G : ab_G} {xs : List Int32} {d : Nat} {cal : ab_F} (hcs : ab_CS G (ab_Z G xs) ab_Mf cal d) : ab_Sd G (ab_Z G xs) (d + 1) (ab_mY mX9_stone pX9_stone) 29 (bX9_stone_1 cal) :=
  sn_ldc dX9_stone_29 w_1109 <| sn_ret dX9_stone_31 ab_ri_int
set_option maxRecDepth 100000 in
theorem sX9_stone_2 {G : ab_G} {xs : List Int32} {d : Nat} {cal : ab_F} (hcs : ab_CS G (ab_Z G xs) ab_Mf cal d) : ab_Sd G (ab_Z G xs) (d + 1) (ab_mY mX9_stone pX9_stone) 32 (bX9_stone_2 cal) :=
  sn_aload_n dX9_stone_32 rfl <| sn_getf dX9_stone_33 rfl hinX9 (by decide) w_991 <| sn_iconst dX9_stone_36 rfl <| sn_iald dX9_stone_37 rfl <| sn_bipush dX9_stone_38 rfl <| sn_cmp_ne (tg := 48) dX9_stone_40 rfl rfl <| sn_ldc dX9_stone_43 w_1110 <| sn_goto (tg := 55) dX9_stone_45 rfl rfl
set_option maxRecDepth 100000 in
theorem sX9_stone_3 {G : ab_G} {xs : List Int32} {d : Nat} {cal : ab_F} (hcs : ab_CS G (ab_Z G xs) ab_Mf cal d) : ab_Sd G (ab_Z G xs) (d + 1) (ab_mY mX9_stone pX9_stone) 48 (bX9_stone_3 cal) :=
  sn_aload_n dX9_stone_48 rfl <| sn_iload_n dX9_stone_49 rfl <| sn_iload_n dX9_stone_50 rfl <| sn_iload_n dX9_stone_51 rfl <| sq_callV mt_137 hcs dX9_stone_52 rfl w_1111 w_1113 w_16 w_63 w_1114 hy_137 hm_137 <| sn_next rfl
set_option maxRecDepth 100000 in
theorem sX9_stone_4 {G : ab_G} {xs : List Int32} {d : Nat} {cal : ab_F} (hcs : ab_CS G (ab_Z G xs) ab_Mf cal d) : ab_Sd G (ab_Z G xs) (d + 1) (ab_mY mX9_stone pX9_stone) 55 (bX9_stone_4 cal) :=
  sn_ret dX9_stone_55 ab_ri_int
theorem sX9_stone {G : ab_G} {xs : List Int32} {d : Nat} {cal : ab_F} (hcs : ab_CS G (ab_Z G xs) ab_Mf cal d) : ab_BS G (ab_Z G xs) (d + 1) (ab_mY mX9_stone pX9_stone) pX9_stone (bX9_stone cal) := ⟨sX9_stone_0 hcs, sX9_stone_1 hcs, sX9_stone_2 hcs, sX9_stone_3 hcs, sX9_stone_4 hcs, trivial⟩
theorem dgX9_heavyOf_0 : decode cX9_heavyOf 0 = .ok (.aload_n 0, 1) ∧ decode cX9_heavyOf 1 = .ok (.iload_n 1, 1) ∧ decode cX9_heavyOf 2 = .ok (.iconst 1, 1) ∧ decode cX9_heavyOf 3 = .ok (.invokevirtual 96, 3) ∧ decode cX9_heavyOf 6 = .ok (.aload_n 0, 1) ∧ decode cX9_heavyOf 7 = .ok (.iload_n 1, 1) ∧ decode cX9_heavyOf 8 = .ok (.iconst 2, 1) ∧ decode cX9_heavyOf 9 = .ok (.invokevirtual 96, 3) ∧ decode cX9_heavyOf 12 = .ok (.iadd, 1) ∧ decode cX9_heavyOf 13 = .ok (.istore_n 2, 1) ∧ decode cX9_heavyOf 14 = .ok (.aload_n 0, 1) ∧ decode cX9_heavyOf 15 = .ok (.iload_n 1, 1) ∧ decode cX9_heavyOf 16 = .ok (.iconst 0, 1) ∧ decode cX9_heavyOf 17 = .ok (.invokevirtual 96, 3) ∧ decode cX9_heavyOf 20 = .ok (.tableswitch 52 1 5 #[36, 40, 44, 40, 50], 36) ∧ decode cX9_heavyOf 56 = .ok (.iload_n 2, 1) := by decide +kernel
theorem dX9_heavyOf_0 : decode cX9_heavyOf 0 = .ok (.aload_n 0, 1) := dgX9_heavyOf_0.1
theorem dX9_heavyOf_1 : decode cX9_heavyOf 1 = .ok (.iload_n 1, 1) := dgX9_heavyOf_0.2.1
theorem dX9_heavyOf_2 : decode cX9_heavyOf 2 = .ok (.iconst 1, 1) := dgX9_heavyOf_0.2.2.1
theorem dX9_heavyOf_3 : decode cX9_heavyOf 3 = .ok (.invokevirtual 96, 3) := dgX9_heavyOf_0.2.2.2.1
theorem dX9_heavyOf_6 : decode cX9_heavyOf 6 = .ok (.aload_n 0, 1) := dgX9_heavyOf_0.2.2.2.2.1
theorem dX9_heavyOf_7 : decode cX9_heavyOf 7 = .ok (.iload_n 1, 1) := dgX9_heavyOf_0.2.2.2.2.2.1
theorem dX9_heavyOf_8 : decode cX9_heavyOf 8 = .ok (.iconst 2, 1) := dgX9_heavyOf_0.2.2.2.2.2.2.1
theorem dX9_heavyOf_9 : decode cX9_heavyOf 9 = .ok (.invokevirtual 96, 3) := dgX9_heavyOf_0.2.2.2.2.2.2.2.1
theorem dX9_heavyOf_12 : decode cX9_heavyOf 12 = .ok (.iadd, 1) := dgX9_heavyOf_0.2.2.2.2.2.2.2.2.1
theorem dX9_heavyOf_13 : decode cX9_heavyOf 13 = .ok (.istore_n 2, 1) := dgX9_heavyOf_0.2.2.2.2.2.2.2.2.2.1
theorem dX9_heavyOf_14 : decode cX9_heavyOf 14 = .ok (.aload_n 0, 1) := dgX9_heavyOf_0.2.2.2.2.2.2.2.2.2.2.1
theorem dX9_heavyOf_15 : decode cX9_heavyOf 15 = .ok (.iload_n 1, 1) := dgX9_heavyOf_0.2.2.2.2.2.2.2.2.2.2.2.1
theorem dX9_heavyOf_16 : decode cX9_heavyOf 16 = .ok (.iconst 0, 1) := dgX9_heavyOf_0.2.2.2.2.2.2.2.2.2.2.2.2.1
theorem dX9_heavyOf_17 : decode cX9_heavyOf 17 = .ok (.invokevirtual 96, 3) := dgX9_heavyOf_0.2.2.2.2.2.2.2.2.2.2.2.2.2.1
theorem dX9_heavyOf_20 : decode cX9_heavyOf 20 = .ok (.tableswitch 52 1 5 #[36, 40, 44, 40, 50], 36) := dgX9_heavyOf_0.2.2.2.2.2.2.2.2.2.2.2.2.2.2.1
theorem dX9_heavyOf_56 : decode cX9_heavyOf 56 = .ok (.iload_n 2, 1) := dgX9_heavyOf_0.2.2.2.2.2.2.2.2.2.2.2.2.2.2.2
theorem dgX9_heavyOf_1 : decode cX9_heavyOf 57 = .ok (.iconst 2, 1) ∧ decode cX9_heavyOf 58 = .ok (.iadd, 1) ∧ decode cX9_heavyOf 59 = .ok (.ireturn, 1) ∧ decode cX9_heavyOf 60 = .ok (.iload_n 2, 1) ∧ decode cX9_heavyOf 61 = .ok (.iconst 2, 1) ∧ decode cX9_heavyOf 62 = .ok (.idiv, 1) ∧ decode cX9_heavyOf 63 = .ok (.ireturn, 1) ∧ decode cX9_heavyOf 64 = .ok (.iconst 2, 1) ∧ decode cX9_heavyOf 65 = .ok (.iload_n 2, 1) ∧ decode cX9_heavyOf 66 = .ok (.iconst 2, 1) ∧ decode cX9_heavyOf 67 = .ok (.iadd, 1) ∧ decode cX9_heavyOf 68 = .ok (.imul, 1) ∧ decode cX9_heavyOf 69 = .ok (.ireturn, 1) ∧ decode cX9_heavyOf 70 = .ok (.iconst 1, 1) ∧ decode cX9_heavyOf 71 = .ok (.ireturn, 1) ∧ decode cX9_heavyOf 72 = .ok (.iload_n 2, 1) := by decide +kernel
theorem dX9_heavyOf_57 : decode cX9_heavyOf 57 = .ok (.iconst 2, 1) := dgX9_heavyOf_1.1
theorem dX9_heavyOf_58 : decode cX9_heavyOf 58 = .ok (.iadd, 1) := dgX9_heavyOf_1.2.1
theorem dX9_heavyOf_59 : decode cX9_heavyOf 59 = .ok (.ireturn, 1) := dgX9_heavyOf_1.2.2.1
theorem dX9_heavyOf_60 : decode cX9_heavyOf 60 = .ok (.iload_n 2, 1) := dgX9_heavyOf_1.2.2.2.1
theorem dX9_heavyOf_61 : decode cX9_heavyOf 61 = .ok (.iconst 2, 1) := dgX9_heavyOf_1.2.2.2.2.1
theorem dX9_heavyOf_62 : decode cX9_heavyOf 62 = .ok (.idiv, 1) := dgX9_heavyOf_1.2.2.2.2.2.1
theorem dX9_heavyOf_63 : decode cX9_heavyOf 63 = .ok (.ireturn, 1) := dgX9_heavyOf_1.2.2.2.2.2.2.1
theorem dX9_heavyOf_64 : decode cX9_heavyOf 64 = .ok (.iconst 2, 1) := dgX9_heavyOf_1.2.2.2.2.2.2.2.1
theorem dX9_heavyOf_65 : decode cX9_heavyOf 65 = .ok (.iload_n 2, 1) := dgX9_heavyOf_1.2.2.2.2.2.2.2.2.1
theorem dX9_heavyOf_66 : decode cX9_heavyOf 66 = .ok (.iconst 2, 1) := dgX9_heavyOf_1.2.2.2.2.2.2.2.2.2.1
theorem dX9_heavyOf_67 : decode cX9_heavyOf 67 = .ok (.iadd, 1) := dgX9_heavyOf_1.2.2.2.2.2.2.2.2.2.2.1
theorem dX9_heavyOf_68 : decode cX9_heavyOf 68 = .ok (.imul, 1) := dgX9_heavyOf_1.2.2.2.2.2.2.2.2.2.2.2.1
theorem dX9_heavyOf_69 : decode cX9_heavyOf 69 = .ok (.ireturn, 1) := dgX9_heavyOf_1.2.2.2.2.2.2.2.2.2.2.2.2.1
theorem dX9_heavyOf_70 : decode cX9_heavyOf 70 = .ok (.iconst 1, 1) := dgX9_heavyOf_1.2.2.2.2.2.2.2.2.2.2.2.2.2.1
theorem dX9_heavyOf_71 : decode cX9_heavyOf 71 = .ok (.ireturn, 1) := dgX9_heavyOf_1.2.2.2.2.2.2.2.2.2.2.2.2.2.2.1
theorem dX9_heavyOf_72 : decode cX9_heavyOf 72 = .ok (.iload_n 2, 1) := dgX9_heavyOf_1.2.2.2.2.2.2.2.2.2.2.2.2.2.2.2
theorem dX9_heavyOf_73 : decode cX9_heavyOf 73 = .ok (.ireturn, 1) := by decide +kernel
abbrev pX9_heavyOf : List Nat := [0, 56, 60, 64, 70, 72]
def bX9_heavyOf_0 (cal : ab_F) : ab_K := o_aload 0 <| o_iload 1 <| o_push (.int 1) <| o_callV cal 135 2 8 <| o_aload 0 <| o_iload 1 <| o_push (.int 2) <| o_callV cal 135 2 8 <| o_bin (fun x y => x + y) <| o_istore 2 <| o_aload 0 <| o_iload 1 <| o_push (.int 0) <| o_callV cal 135 2 8 <| o_sw (ab_tsw 1 [1, 2, 3, 2, 4] 5)
def bX9_heavyOf_1 (cal : ab_F) : ab_K := o_iload 2 <| o_push (.int 2) <| o_bin (fun x y => x + y) <| o_ret (some .int)
def bX9_heavyOf_2 (cal : ab_F) : ab_K := o_iload 2 <| o_push (.int 2) <| o_div (fun x y => x / y) <| o_ret (some .int)
def bX9_heavyOf_3 (cal : ab_F) : ab_K := o_push (.int 2) <| o_iload 2 <| o_push (.int 2) <| o_bin (fun x y => x + y) <| o_bin (fun x y => x * y) <| o_ret (some .int)
def bX9_heavyOf_4 (cal : ab_F) : ab_K := o_push (.int 1) <| o_ret (some .int)
def bX9_heavyOf_5 (cal : ab_F) : ab_K := o_iload 2 <| o_ret (some .int)
def bX9_heavyOf (cal : ab_F) : List ab_K := [bX9_heavyOf_0 cal, bX9_heavyOf_1 cal, bX9_heavyOf_2 cal, bX9_heavyOf_3 cal, bX9_heavyOf_4 cal, bX9_heavyOf_5 cal]
set_option maxRecDepth 100000 in
theorem sX9_heavyOf_0 {G : ab_G} {xs : List Int32} {d : Nat} {cal : ab_F} (hcs : ab_CS G (ab_Z G xs) ab_Mf cal d) : ab_Sd G (ab_Z G xs) (d + 1) (ab_mY mX9_heavyOf pX9_heavyOf) 0 (bX9_heavyOf_0 cal) :=
  sn_aload_n dX9_heavyOf_0 rfl <| sn_iload_n dX9_heavyOf_1 rfl <| sn_iconst dX9_heavyOf_2 rfl <| sq_callV mt_135 hcs dX9_heavyOf_3 rfl w_1123 w_1125 w_18 w_63 w_1126 hy_135 hm_135 <| sn_aload_n dX9_heavyOf_6 rfl <| sn_iload_n dX9_heavyOf_7 rfl <| sn_iconst dX9_heavyOf_8 rfl <| sq_callV mt_135 hcs dX9_heavyOf_9 rfl w_1123 w_1125 w_18 w_63 w_1126 hy_135 hm_135 <| sn_iadd dX9_heavyOf_12 <| sn_istore_n dX9_heavyOf_13 rfl (by decide) <| sn_aload_n dX9_heavyOf_14 rfl <| sn_iload_n dX9_heavyOf_15 rfl <| sn_iconst dX9_heavyOf_16 rfl <| sq_callV mt_135 hcs dX9_heavyOf_17 rfl w_1123 w_1125 w_18 w_63 w_1126 hy_135 hm_135 <| sn_tsw dX9_heavyOf_20 rfl rfl rfl
set_option maxRecDepth 100000 in
theorem sX9_heavyOf_1 {G : ab_G} {xs : List Int32} {d : Nat} {cal : ab_F} (hcs : ab_CS G (ab_Z G xs) ab_Mf cal d) : ab_Sd G (ab_Z G xs) (d + 1) (ab_mY mX9_heavyOf pX9_heavyOf) 56 (bX9_heavyOf_1 cal) :=
  sn_iload_n dX9_heavyOf_56 rfl <| sn_iconst dX9_heavyOf_57 rfl <| sn_iadd dX9_heavyOf_58 <| sn_ret dX9_heavyOf_59 ab_ri_int
set_option maxRecDepth 100000 in
theorem sX9_heavyOf_2 {G : ab_G} {xs : List Int32} {d : Nat} {cal : ab_F} (hcs : ab_CS G (ab_Z G xs) ab_Mf cal d) : ab_Sd G (ab_Z G xs) (d + 1) (ab_mY mX9_heavyOf pX9_heavyOf) 60 (bX9_heavyOf_2 cal) :=
  sn_iload_n dX9_heavyOf_60 rfl <| sn_iconst dX9_heavyOf_61 rfl <| sn_idiv dX9_heavyOf_62 <| sn_ret dX9_heavyOf_63 ab_ri_int
set_option maxRecDepth 100000 in
theorem sX9_heavyOf_3 {G : ab_G} {xs : List Int32} {d : Nat} {cal : ab_F} (hcs : ab_CS G (ab_Z G xs) ab_Mf cal d) : ab_Sd G (ab_Z G xs) (d + 1) (ab_mY mX9_heavyOf pX9_heavyOf) 64 (bX9_heavyOf_3 cal) :=
  sn_iconst dX9_heavyOf_64 rfl <| sn_iload_n dX9_heavyOf_65 rfl <| sn_iconst dX9_heavyOf_66 rfl <| sn_iadd dX9_heavyOf_67 <| sn_imul dX9_heavyOf_68 <| sn_ret dX9_heavyOf_69 ab_ri_int
set_option maxRecDepth 100000 in
theorem sX9_heavyOf_4 {G : ab_G} {xs : List Int32} {d : Nat} {cal : ab_F} (hcs : ab_CS G (ab_Z G xs) ab_Mf cal d) : ab_Sd G (ab_Z G xs) (d + 1) (ab_mY mX9_heavyOf pX9_heavyOf) 70 (bX9_heavyOf_4 cal) :=
  sn_iconst dX9_heavyOf_70 rfl <| sn_ret dX9_heavyOf_71 ab_ri_int
set_option maxRecDepth 100000 in
theorem sX9_heavyOf_5 {G : ab_G} {xs : List Int32} {d : Nat} {cal : ab_F} (hcs : ab_CS G (ab_Z G xs) ab_Mf cal d) : ab_Sd G (ab_Z G xs) (d + 1) (ab_mY mX9_heavyOf pX9_heavyOf) 72 (bX9_heavyOf_5 cal) :=
  sn_iload_n dX9_heavyOf_72 rfl <| sn_ret dX9_heavyOf_73 ab_ri_int
theorem sX9_heavyOf {G : ab_G} {xs : List Int32} {d : Nat} {cal : ab_F} (hcs : ab_CS G (ab_Z G xs) ab_Mf cal d) : ab_BS G (ab_Z G xs) (d + 1) (ab_mY mX9_heavyOf pX9_heavyOf) pX9_heavyOf (bX9_heavyOf cal) := ⟨sX9_heavyOf_0 hcs, sX9_heavyOf_1 hcs, sX9_heavyOf_2 hcs, sX9_heavyOf_3 hcs, sX9_heavyOf_4 hcs, sX9_heavyOf_5 hcs, trivial⟩
theorem dgX9_worthOf_0 : decode cX9_worthOf 0 = .ok (.bipush 10, 2) ∧ decode cX9_worthOf 2 = .ok (.aload_n 0, 1) ∧ decode cX9_worthOf 3 = .ok (.iload_n 1, 1) ∧ decode cX9_worthOf 4 = .ok (.iconst 1, 1) ∧ decode cX9_worthOf 5 = .ok (.invokevirtual 96, 3) ∧ decode cX9_worthOf 8 = .ok (.imul, 1) ∧ decode cX9_worthOf 9 = .ok (.aload_n 0, 1) ∧ decode cX9_worthOf 10 = .ok (.iload_n 1, 1) ∧ decode cX9_worthOf 11 = .ok (.iconst 2, 1) ∧ decode cX9_worthOf 12 = .ok (.invokevirtual 96, 3) ∧ decode cX9_worthOf 15 = .ok (.iadd, 1) ∧ decode cX9_worthOf 16 = .ok (.istore_n 2, 1) ∧ decode cX9_worthOf 17 = .ok (.aload_n 0, 1) ∧ decode cX9_worthOf 18 = .ok (.iload_n 1, 1) ∧ decode cX9_worthOf 19 = .ok (.iconst 0, 1) ∧ decode cX9_worthOf 20 = .ok (.invokevirtual 96, 3) := by decide +kernel
theorem dX9_worthOf_0 : decode cX9_worthOf 0 = .ok (.bipush 10, 2) := dgX9_worthOf_0.1
theorem dX9_worthOf_2 : decode cX9_worthOf 2 = .ok (.aload_n 0, 1) := dgX9_worthOf_0.2.1
theorem dX9_worthOf_3 : decode cX9_worthOf 3 = .ok (.iload_n 1, 1) := dgX9_worthOf_0.2.2.1
theorem dX9_worthOf_4 : decode cX9_worthOf 4 = .ok (.iconst 1, 1) := dgX9_worthOf_0.2.2.2.1
theorem dX9_worthOf_5 : decode cX9_worthOf 5 = .ok (.invokevirtual 96, 3) := dgX9_worthOf_0.2.2.2.2.1
theorem dX9_worthOf_8 : decode cX9_worthOf 8 = .ok (.imul, 1) := dgX9_worthOf_0.2.2.2.2.2.1
theorem dX9_worthOf_9 : decode cX9_worthOf 9 = .ok (.aload_n 0, 1) := dgX9_worthOf_0.2.2.2.2.2.2.1
theorem dX9_worthOf_10 : decode cX9_worthOf 10 = .ok (.iload_n 1, 1) := dgX9_worthOf_0.2.2.2.2.2.2.2.1
theorem dX9_worthOf_11 : decode cX9_worthOf 11 = .ok (.iconst 2, 1) := dgX9_worthOf_0.2.2.2.2.2.2.2.2.1
theorem dX9_worthOf_12 : decode cX9_worthOf 12 = .ok (.invokevirtual 96, 3) := dgX9_worthOf_0.2.2.2.2.2.2.2.2.2.1
theorem dX9_worthOf_15 : decode cX9_worthOf 15 = .ok (.iadd, 1) := dgX9_worthOf_0.2.2.2.2.2.2.2.2.2.2.1
theorem dX9_worthOf_16 : decode cX9_worthOf 16 = .ok (.istore_n 2, 1) := dgX9_worthOf_0.2.2.2.2.2.2.2.2.2.2.2.1
theorem dX9_worthOf_17 : decode cX9_worthOf 17 = .ok (.aload_n 0, 1) := dgX9_worthOf_0.2.2.2.2.2.2.2.2.2.2.2.2.1
theorem dX9_worthOf_18 : decode cX9_worthOf 18 = .ok (.iload_n 1, 1) := dgX9_worthOf_0.2.2.2.2.2.2.2.2.2.2.2.2.2.1
theorem dX9_worthOf_19 : decode cX9_worthOf 19 = .ok (.iconst 0, 1) := dgX9_worthOf_0.2.2.2.2.2.2.2.2.2.2.2.2.2.2.1
theorem dX9_worthOf_20 : decode cX9_worthOf 20 = .ok (.invokevirtual 96, 3) := dgX9_worthOf_0.2.2.2.2.2.2.2.2.2.2.2.2.2.2.2
theorem dgX9_worthOf_1 : decode cX9_worthOf 23 = .ok (.tableswitch 57 1 5 #[33, 38, 43, 50, 55], 33) ∧ decode cX9_worthOf 56 = .ok (.iload_n 2, 1) ∧ decode cX9_worthOf 57 = .ok (.bipush 7, 2) ∧ decode cX9_worthOf 59 = .ok (.iadd, 1) ∧ decode cX9_worthOf 60 = .ok (.ireturn, 1) ∧ decode cX9_worthOf 61 = .ok (.bipush 99, 2) ∧ decode cX9_worthOf 63 = .ok (.iload_n 2, 1) ∧ decode cX9_worthOf 64 = .ok (.isub, 1) ∧ decode cX9_worthOf 65 = .ok (.ireturn, 1) ∧ decode cX9_worthOf 66 = .ok (.iconst 2, 1) ∧ decode cX9_worthOf 67 = .ok (.iload_n 2, 1) ∧ decode cX9_worthOf 68 = .ok (.bipush 7, 2) ∧ decode cX9_worthOf 70 = .ok (.iadd, 1) ∧ decode cX9_worthOf 71 = .ok (.imul, 1) ∧ decode cX9_worthOf 72 = .ok (.ireturn, 1) ∧ decode cX9_worthOf 73 = .ok (.bipush 95, 2) := by decide +kernel
theorem dX9_worthOf_23 : decode cX9_worthOf 23 = .ok (.tableswitch 57 1 5 #[33, 38, 43, 50, 55], 33) := dgX9_worthOf_1.1
theorem dX9_worthOf_56 : decode cX9_worthOf 56 = .ok (.iload_n 2, 1) := dgX9_worthOf_1.2.1
theorem dX9_worthOf_57 : decode cX9_worthOf 57 = .ok (.bipush 7, 2) := dgX9_worthOf_1.2.2.1
theorem dX9_worthOf_59 : decode cX9_worthOf 59 = .ok (.iadd, 1) := dgX9_worthOf_1.2.2.2.1
theorem dX9_worthOf_60 : decode cX9_worthOf 60 = .ok (.ireturn, 1) := dgX9_worthOf_1.2.2.2.2.1
theorem dX9_worthOf_61 : decode cX9_worthOf 61 = .ok (.bipush 99, 2) := dgX9_worthOf_1.2.2.2.2.2.1
theorem dX9_worthOf_63 : decode cX9_worthOf 63 = .ok (.iload_n 2, 1) := dgX9_worthOf_1.2.2.2.2.2.2.1
theorem dX9_worthOf_64 : decode cX9_worthOf 64 = .ok (.isub, 1) := dgX9_worthOf_1.2.2.2.2.2.2.2.1
theorem dX9_worthOf_65 : decode cX9_worthOf 65 = .ok (.ireturn, 1) := dgX9_worthOf_1.2.2.2.2.2.2.2.2.1
theorem dX9_worthOf_66 : decode cX9_worthOf 66 = .ok (.iconst 2, 1) := dgX9_worthOf_1.2.2.2.2.2.2.2.2.2.1
theorem dX9_worthOf_67 : decode cX9_worthOf 67 = .ok (.iload_n 2, 1) := dgX9_worthOf_1.2.2.2.2.2.2.2.2.2.2.1
theorem dX9_worthOf_68 : decode cX9_worthOf 68 = .ok (.bipush 7, 2) := dgX9_worthOf_1.2.2.2.2.2.2.2.2.2.2.2.1
theorem dX9_worthOf_70 : decode cX9_worthOf 70 = .ok (.iadd, 1) := dgX9_worthOf_1.2.2.2.2.2.2.2.2.2.2.2.2.1
theorem dX9_worthOf_71 : decode cX9_worthOf 71 = .ok (.imul, 1) := dgX9_worthOf_1.2.2.2.2.2.2.2.2.2.2.2.2.2.1
theorem dX9_worthOf_72 : decode cX9_worthOf 72 = .ok (.ireturn, 1) := dgX9_worthOf_1.2.2.2.2.2.2.2.2.2.2.2.2.2.2.1
theorem dX9_worthOf_73 : decode cX9_worthOf 73 = .ok (.bipush 95, 2) := dgX9_worthOf_1.2.2.2.2.2.2.2.2.2.2.2.2.2.2.2
theorem dgX9_worthOf_2 : decode cX9_worthOf 75 = .ok (.iload_n 2, 1) ∧ decode cX9_worthOf 76 = .ok (.isub, 1) ∧ decode cX9_worthOf 77 = .ok (.ireturn, 1) ∧ decode cX9_worthOf 78 = .ok (.iconst 3, 1) ∧ decode cX9_worthOf 79 = .ok (.ireturn, 1) ∧ decode cX9_worthOf 80 = .ok (.iload_n 2, 1) ∧ decode cX9_worthOf 81 = .ok (.ireturn, 1) := by decide +kernel
theorem dX9_worthOf_75 : decode cX9_worthOf 75 = .ok (.iload_n 2, 1) := dgX9_worthOf_2.1
theorem dX9_worthOf_76 : decode cX9_worthOf 76 = .ok (.isub, 1) := dgX9_worthOf_2.2.1
theorem dX9_worthOf_77 : decode cX9_worthOf 77 = .ok (.ireturn, 1) := dgX9_worthOf_2.2.2.1
theorem dX9_worthOf_78 : decode cX9_worthOf 78 = .ok (.iconst 3, 1) := dgX9_worthOf_2.2.2.2.1
theorem dX9_worthOf_79 : decode cX9_worthOf 79 = .ok (.ireturn, 1) := dgX9_worthOf_2.2.2.2.2.1
theorem dX9_worthOf_80 : decode cX9_worthOf 80 = .ok (.iload_n 2, 1) := dgX9_worthOf_2.2.2.2.2.2.1
theorem dX9_worthOf_81 : decode cX9_worthOf 81 = .ok (.ireturn, 1) := dgX9_worthOf_2.2.2.2.2.2.2
abbrev pX9_worthOf : List Nat := [0, 56, 61, 66, 73, 78, 80]
def bX9_worthOf_0 (cal : ab_F) : ab_K := o_push (.int 10) <| o_aload 0 <| o_iload 1 <| o_push (.int 1) <| o_callV cal 135 2 8 <| o_bin (fun x y => x * y) <| o_aload 0 <| o_iload 1 <| o_push (.int 2) <| o_callV cal 135 2 8 <| o_bin (fun x y => x + y) <| o_istore 2 <| o_aload 0 <| o_iload 1 <| o_push (.int 0) <| o_callV cal 135 2 8 <| o_sw (ab_tsw 1 [1, 2, 3, 4, 5] 6)
def bX9_worthOf_1 (cal : ab_F) : ab_K := o_iload 2 <| o_push (.int 7) <| o_bin (fun x y => x + y) <| o_ret (some .int)
def bX9_worthOf_2 (cal : ab_F) : ab_K := o_push (.int 99) <| o_iload 2 <| o_bin (fun x y => x - y) <| o_ret (some .int)
def bX9_worthOf_3 (cal : ab_F) : ab_K := o_push (.int 2) <| o_iload 2 <| o_push (.int 7) <| o_bin (fun x y => x + y) <| o_bin (fun x y => x * y) <| o_ret (some .int)
def bX9_worthOf_4 (cal : ab_F) : ab_K := o_push (.int 95) <| o_iload 2 <| o_bin (fun x y => x - y) <| o_ret (some .int)
def bX9_worthOf_5 (cal : ab_F) : ab_K := o_push (.int 3) <| o_ret (some .int)
def bX9_worthOf_6 (cal : ab_F) : ab_K := o_iload 2 <| o_ret (some .int)
def bX9_worthOf (cal : ab_F) : List ab_K := [bX9_worthOf_0 cal, bX9_worthOf_1 cal, bX9_worthOf_2 cal, bX9_worthOf_3 cal, bX9_worthOf_4 cal, bX9_worthOf_5 cal, bX9_worthOf_6 cal]
set_option maxRecDepth 100000 in
theorem sX9_worthOf_0 {G : ab_G} {xs : List Int32} {d : Nat} {cal : ab_F} (hcs : ab_CS G (ab_Z G xs) ab_Mf cal d) : ab_Sd G (ab_Z G xs) (d + 1) (ab_mY mX9_worthOf pX9_worthOf) 0 (bX9_worthOf_0 cal) :=
  sn_bipush dX9_worthOf_0 rfl <| sn_aload_n dX9_worthOf_2 rfl <| sn_iload_n dX9_worthOf_3 rfl <| sn_iconst dX9_worthOf_4 rfl <| sq_callV mt_135 hcs dX9_worthOf_5 rfl w_1123 w_1125 w_18 w_63 w_1126 hy_135 hm_135 <| sn_imul dX9_worthOf_8 <| sn_aload_n dX9_worthOf_9 rfl <| sn_iload_n dX9_worthOf_10 rfl <| sn_iconst dX9_worthOf_11 rfl <| sq_callV mt_135 hcs dX9_worthOf_12 rfl w_1123 w_1125 w_18 w_63 w_1126 hy_135 hm_135 <| sn_iadd dX9_worthOf_15 <| sn_istore_n dX9_worthOf_16 rfl (by decide) <| sn_aload_n dX9_worthOf_17 rfl <| sn_iload_n dX9_worthOf_18 rfl <| sn_iconst dX9_worthOf_19 rfl <| sq_callV mt_135 hcs dX9_worthOf_20 rfl w_1123 w_1125 w_18 w_63 w_1126 hy_135 hm_135 <| sn_tsw dX9_worthOf_23 rfl rfl rfl
set_option maxRecDepth 100000 in
theorem sX9_worthOf_1 {G : ab_G} {xs : List Int32} {d : Nat} {cal : ab_F} (hcs : ab_CS G (ab_Z G xs) ab_Mf cal d) : ab_Sd G (ab_Z G xs) (d + 1) (ab_mY mX9_worthOf pX9_worthOf) 56 (bX9_worthOf_1 cal) :=
  sn_iload_n dX9_worthOf_56 rfl <| sn_bipush dX9_worthOf_57 rfl <| sn_iadd dX9_worthOf_59 <| sn_ret dX9_worthOf_60 ab_ri_int
set_option maxRecDepth 100000 in
theorem sX9_worthOf_2 {G : ab_G} {xs : List Int32} {d : Nat} {cal : ab_F} (hcs : ab_CS G (ab_Z G xs) ab_Mf cal d) : ab_Sd G (ab_Z G xs) (d + 1) (ab_mY mX9_worthOf pX9_worthOf) 61 (bX9_worthOf_2 cal) :=
  sn_bipush dX9_worthOf_61 rfl <| sn_iload_n dX9_worthOf_63 rfl <| sn_isub dX9_worthOf_64 <| sn_ret dX9_worthOf_65 ab_ri_int
set_option maxRecDepth 100000 in
theorem sX9_worthOf_3 {G : ab_G} {xs : List Int32} {d : Nat} {cal : ab_F} (hcs : ab_CS G (ab_Z G xs) ab_Mf cal d) : ab_Sd G (ab_Z G xs) (d + 1) (ab_mY mX9_worthOf pX9_worthOf) 66 (bX9_worthOf_3 cal) :=
  sn_iconst dX9_worthOf_66 rfl <| sn_iload_n dX9_worthOf_67 rfl <| sn_bipush dX9_worthOf_68 rfl <| sn_iadd dX9_worthOf_70 <| sn_imul dX9_worthOf_71 <| sn_ret dX9_worthOf_72 ab_ri_int
set_option maxRecDepth 100000 in
theorem sX9_worthOf_4 {G : ab_G} {xs : List Int32} {d : Nat} {cal : ab_F} (hcs : ab_CS G (ab_Z G xs) ab_Mf cal d) : ab_Sd G (ab_Z G xs) (d + 1) (ab_mY mX9_worthOf pX9_worthOf) 73 (bX9_worthOf_4 cal) :=
  sn_bipush dX9_worthOf_73 rfl <| sn_iload_n dX9_worthOf_75 rfl <| sn_isub dX9_worthOf_76 <| sn_ret dX9_worthOf_77 ab_ri_int
set_option maxRecDepth 100000 in
theorem sX9_worthOf_5 {G : ab_G} {xs : List Int32} {d : Nat} {cal : ab_F} (hcs : ab_CS G (ab_Z G xs) ab_Mf cal d) : ab_Sd G (ab_Z G xs) (d + 1) (ab_mY mX9_worthOf pX9_worthOf) 78 (bX9_worthOf_5 cal) :=
  sn_iconst dX9_worthOf_78 rfl <| sn_ret dX9_worthOf_79 ab_ri_int
set_option maxRecDepth 100000 in
theorem sX9_worthOf_6 {G : ab_G} {xs : List Int32} {d : Nat} {cal : ab_F} (hcs : ab_CS G (ab_Z G xs) ab_Mf cal d) : ab_Sd G (ab_Z G xs) (d + 1) (ab_mY mX9_worthOf pX9_worthOf) 80 (bX9_worthOf_6 cal) :=
  sn_iload_n dX9_worthOf_80 rfl <| sn_ret dX9_worthOf_81 ab_ri_int
theorem sX9_worthOf {G : ab_G} {xs : List Int32} {d : Nat} {cal : ab_F} (hcs : ab_CS G (ab_Z G xs) ab_Mf cal d) : ab_BS G (ab_Z G xs) (d + 1) (ab_mY mX9_worthOf pX9_worthOf) pX9_worthOf (bX9_worthOf cal) := ⟨sX9_worthOf_0 hcs, sX9_worthOf_1 hcs, sX9_worthOf_2 hcs, sX9_worthOf_3 hcs, sX9_worthOf_4 hcs, sX9_worthOf_5 hcs, sX9_worthOf_6 hcs, trivial⟩
theorem dgX9_told_0 : decode cX9_told 0 = .ok (.aload_n 0, 1) ∧ decode cX9_told 1 = .ok (.iload_n 1, 1) ∧ decode cX9_told 2 = .ok (.invokevirtual 100, 3) ∧ decode cX9_told 5 = .ok (.ifCond .eq 13, 3) ∧ decode cX9_told 8 = .ok (.iload_n 2, 1) ∧ decode cX9_told 9 = .ok (.iconst 0, 1) ∧ decode cX9_told 10 = .ok (.bipush 6, 2) ∧ decode cX9_told 12 = .ok (.invokestatic 86, 3) ∧ decode cX9_told 15 = .ok (.ifCond .ne 6, 3) ∧ decode cX9_told 18 = .ok (.ldc 90, 2) ∧ decode cX9_told 20 = .ok (.ireturn, 1) ∧ decode cX9_told 21 = .ok (.iload_n 2, 1) ∧ decode cX9_told 22 = .ok (.iconst 5, 1) ∧ decode cX9_told 23 = .ok (.if_icmp .ge 12, 3) ∧ decode cX9_told 26 = .ok (.aload_n 0, 1) ∧ decode cX9_told 27 = .ok (.iload_n 1, 1) := by decide +kernel
theorem dX9_told_0 : decode cX9_told 0 = .ok (.aload_n 0, 1) := dgX9_told_0.1
theorem dX9_told_1 : decode cX9_told 1 = .ok (.iload_n 1, 1) := dgX9_told_0.2.1
theorem dX9_told_2 : decode cX9_told 2 = .ok (.invokevirtual 100, 3) := dgX9_told_0.2.2.1
theorem dX9_told_5 : decode cX9_told 5 = .ok (.ifCond .eq 13, 3) := dgX9_told_0.2.2.2.1
theorem dX9_told_8 : decode cX9_told 8 = .ok (.iload_n 2, 1) := dgX9_told_0.2.2.2.2.1
theorem dX9_told_9 : decode cX9_told 9 = .ok (.iconst 0, 1) := dgX9_told_0.2.2.2.2.2.1
theorem dX9_told_10 : decode cX9_told 10 = .ok (.bipush 6, 2) := dgX9_told_0.2.2.2.2.2.2.1
theorem dX9_told_12 : decode cX9_told 12 = .ok (.invokestatic 86, 3) := dgX9_told_0.2.2.2.2.2.2.2.1
theorem dX9_told_15 : decode cX9_told 15 = .ok (.ifCond .ne 6, 3) := dgX9_told_0.2.2.2.2.2.2.2.2.1
theorem dX9_told_18 : decode cX9_told 18 = .ok (.ldc 90, 2) := dgX9_told_0.2.2.2.2.2.2.2.2.2.1
theorem dX9_told_20 : decode cX9_told 20 = .ok (.ireturn, 1) := dgX9_told_0.2.2.2.2.2.2.2.2.2.2.1
theorem dX9_told_21 : decode cX9_told 21 = .ok (.iload_n 2, 1) := dgX9_told_0.2.2.2.2.2.2.2.2.2.2.2.1
theorem dX9_told_22 : decode cX9_told 22 = .ok (.iconst 5, 1) := dgX9_told_0.2.2.2.2.2.2.2.2.2.2.2.2.1
theorem dX9_told_23 : decode cX9_told 23 = .ok (.if_icmp .ge 12, 3) := dgX9_told_0.2.2.2.2.2.2.2.2.2.2.2.2.2.1
theorem dX9_told_26 : decode cX9_told 26 = .ok (.aload_n 0, 1) := dgX9_told_0.2.2.2.2.2.2.2.2.2.2.2.2.2.2.1
theorem dX9_told_27 : decode cX9_told 27 = .ok (.iload_n 1, 1) := dgX9_told_0.2.2.2.2.2.2.2.2.2.2.2.2.2.2.2
theorem dgX9_told_1 : decode cX9_told 28 = .ok (.iload_n 2, 1) ∧ decode cX9_told 29 = .ok (.invokevirtual 96, 3) ∧ decode cX9_told 32 = .ok (.goto 21, 3) ∧ decode cX9_told 35 = .ok (.iload_n 2, 1) ∧ decode cX9_told 36 = .ok (.iconst 5, 1) ∧ decode cX9_told 37 = .ok (.if_icmp .ne 11, 3) ∧ decode cX9_told 40 = .ok (.aload_n 0, 1) ∧ decode cX9_told 41 = .ok (.iload_n 1, 1) ∧ decode cX9_told 42 = .ok (.invokevirtual 104, 3) ∧ decode cX9_told 45 = .ok (.goto 8, 3) ∧ decode cX9_told 48 = .ok (.aload_n 0, 1) ∧ decode cX9_told 49 = .ok (.iload_n 1, 1) ∧ decode cX9_told 50 = .ok (.invokevirtual 108, 3) ∧ decode cX9_told 53 = .ok (.ireturn, 1) := by decide +kernel
theorem dX9_told_28 : decode cX9_told 28 = .ok (.iload_n 2, 1) := dgX9_told_1.1
theorem dX9_told_29 : decode cX9_told 29 = .ok (.invokevirtual 96, 3) := dgX9_told_1.2.1
theorem dX9_told_32 : decode cX9_told 32 = .ok (.goto 21, 3) := dgX9_told_1.2.2.1
theorem dX9_told_35 : decode cX9_told 35 = .ok (.iload_n 2, 1) := dgX9_told_1.2.2.2.1
theorem dX9_told_36 : decode cX9_told 36 = .ok (.iconst 5, 1) := dgX9_told_1.2.2.2.2.1
theorem dX9_told_37 : decode cX9_told 37 = .ok (.if_icmp .ne 11, 3) := dgX9_told_1.2.2.2.2.2.1
theorem dX9_told_40 : decode cX9_told 40 = .ok (.aload_n 0, 1) := dgX9_told_1.2.2.2.2.2.2.1
theorem dX9_told_41 : decode cX9_told 41 = .ok (.iload_n 1, 1) := dgX9_told_1.2.2.2.2.2.2.2.1
theorem dX9_told_42 : decode cX9_told 42 = .ok (.invokevirtual 104, 3) := dgX9_told_1.2.2.2.2.2.2.2.2.1
theorem dX9_told_45 : decode cX9_told 45 = .ok (.goto 8, 3) := dgX9_told_1.2.2.2.2.2.2.2.2.2.1
theorem dX9_told_48 : decode cX9_told 48 = .ok (.aload_n 0, 1) := dgX9_told_1.2.2.2.2.2.2.2.2.2.2.1
theorem dX9_told_49 : decode cX9_told 49 = .ok (.iload_n 1, 1) := dgX9_told_1.2.2.2.2.2.2.2.2.2.2.2.1
theorem dX9_told_50 : decode cX9_told 50 = .ok (.invokevirtual 108, 3) := dgX9_told_1.2.2.2.2.2.2.2.2.2.2.2.2.1
theorem dX9_told_53 : decode cX9_told 53 = .ok (.ireturn, 1) := dgX9_told_1.2.2.2.2.2.2.2.2.2.2.2.2.2
abbrev pX9_told : List Nat := [0, 18, 21, 35, 48, 53]
def bX9_told_0 (cal : ab_F) : ab_K := o_aload 0 <| o_iload 1 <| o_callV cal 133 1 8 <| o_if (fun x => decide (x = 0)) 1 <| o_iload 2 <| o_push (.int 0) <| o_push (.int 6) <| o_callS cal 128 3 <| o_if (fun x => decide (¬ x = 0)) 2 <| o_goto 1
def bX9_told_1 (cal : ab_F) : ab_K := o_push (.int (-1000000001)) <| o_ret (some .int)
def bX9_told_2 (cal : ab_F) : ab_K := o_iload 2 <| o_push (.int 5) <| o_cmp (fun x y => decide (y ≤ x)) 3 <| o_aload 0 <| o_iload 1 <| o_iload 2 <| o_callV cal 135 2 8 <| o_goto 5
def bX9_told_3 (cal : ab_F) : ab_K := o_iload 2 <| o_push (.int 5) <| o_cmp (fun x y => decide (¬ x = y)) 4 <| o_aload 0 <| o_iload 1 <| o_callV cal 139 1 8 <| o_goto 5
def bX9_told_4 (cal : ab_F) : ab_K := o_aload 0 <| o_iload 1 <| o_callV cal 140 1 8 <| o_goto 5
def bX9_told_5 (cal : ab_F) : ab_K := o_ret (some .int)
def bX9_told (cal : ab_F) : List ab_K := [bX9_told_0 cal, bX9_told_1 cal, bX9_told_2 cal, bX9_told_3 cal, bX9_told_4 cal, bX9_told_5 cal]
set_option maxRecDepth 100000 in
theorem sX9_told_0 {G : ab_G} {xs : List Int32} {d : Nat} {cal : ab_F} (hcs : ab_CS G (ab_Z G xs) ab_Mf cal d) : ab_Sd G (ab_Z G xs) (d + 1) (ab_mY mX9_told pX9_told) 0 (bX9_told_0 cal) :=
  sn_aload_n dX9_told_0 rfl <| sn_iload_n dX9_told_1 rfl <| sq_callV mt_133 hcs dX9_told_2 rfl w_1119 w_1121 w_17 w_63 w_1122 hy_133 hm_133 <| sn_if_eq (tg := 18) dX9_told_5 rfl rfl <| sn_iload_n dX9_told_8 rfl <| sn_iconst dX9_told_9 rfl <| sn_bipush dX9_told_10 rfl <| sq_callS mt_128 hcs dX9_told_12 w_1106 w_1107 w_63 w_1108 hy_128 hm_128 <| sn_if_ne (tg := 21) dX9_told_15 rfl rfl <| sn_next rfl
set_option maxRecDepth 100000 in
theorem sX9_told_1 {G : ab_G} {xs : List Int32} {d : Nat} {cal : ab_F} (hcs : ab_CS G (ab_Z G xs) ab_Mf cal d) : ab_Sd G (ab_Z G xs) (d + 1) (ab_mY mX9_told pX9_told) 18 (bX9_told_1 cal) :=
  sn_ldc dX9_told_18 w_1109 <| sn_ret dX9_told_20 ab_ri_int
set_option maxRecDepth 100000 in
theorem sX9_told_2 {G : ab_G} {xs : List Int32} {d : Nat} {cal : ab_F} (hcs : ab_CS G (ab_Z G xs) ab_Mf cal d) : ab_Sd G (ab_Z G xs) (d + 1) (ab_mY mX9_told pX9_told) 21 (bX9_told_2 cal) :=
  sn_iload_n dX9_told_21 rfl <| sn_iconst dX9_told_22 rfl <| sn_cmp_ge (tg := 35) dX9_told_23 rfl rfl <| sn_aload_n dX9_told_26 rfl <| sn_iload_n dX9_told_27 rfl <| sn_iload_n dX9_told_28 rfl <| sq_callV mt_135 hcs dX9_told_29 rfl w_1123 w_1125 w_18 w_63 w_1126 hy_135 hm_135 <| sn_goto (tg := 53) dX9_told_32 rfl rfl
set_option maxRecDepth 100000 in
theorem sX9_told_3 {G : ab_G} {xs : List Int32} {d : Nat} {cal : ab_F} (hcs : ab_CS G (ab_Z G xs) ab_Mf cal d) : ab_Sd G (ab_Z G xs) (d + 1) (ab_mY mX9_told pX9_told) 35 (bX9_told_3 cal) :=
  sn_iload_n dX9_told_35 rfl <| sn_iconst dX9_told_36 rfl <| sn_cmp_ne (tg := 48) dX9_told_37 rfl rfl <| sn_aload_n dX9_told_40 rfl <| sn_iload_n dX9_told_41 rfl <| sq_callV mt_139 hcs dX9_told_42 rfl w_1127 w_1129 w_19 w_63 w_1130 hy_139 hm_139 <| sn_goto (tg := 53) dX9_told_45 rfl rfl
set_option maxRecDepth 100000 in
theorem sX9_told_4 {G : ab_G} {xs : List Int32} {d : Nat} {cal : ab_F} (hcs : ab_CS G (ab_Z G xs) ab_Mf cal d) : ab_Sd G (ab_Z G xs) (d + 1) (ab_mY mX9_told pX9_told) 48 (bX9_told_4 cal) :=
  sn_aload_n dX9_told_48 rfl <| sn_iload_n dX9_told_49 rfl <| sq_callV mt_140 hcs dX9_told_50 rfl w_1131 w_1133 w_20 w_63 w_1134 hy_140 hm_140 <| sn_next rfl
set_option maxRecDepth 100000 in
theorem sX9_told_5 {G : ab_G} {xs : List Int32} {d : Nat} {cal : ab_F} (hcs : ab_CS G (ab_Z G xs) ab_Mf cal d) : ab_Sd G (ab_Z G xs) (d + 1) (ab_mY mX9_told pX9_told) 53 (bX9_told_5 cal) :=
  sn_ret dX9_told_53 ab_ri_int
theorem sX9_told {G : ab_G} {xs : List Int32} {d : Nat} {cal : ab_F} (hcs : ab_CS G (ab_Z G xs) ab_Mf cal d) : ab_BS G (ab_Z G xs) (d + 1) (ab_mY mX9_told pX9_told) pX9_told (bX9_told cal) := ⟨sX9_told_0 hcs, sX9_told_1 hcs, sX9_told_2 hcs, sX9_told_3 hcs, sX9_told_4 hcs, sX9_told_5 hcs, trivial⟩
theorem dgX9_spotsOf_0 : decode cX9_spotsOf 0 = .ok (.aload_n 0, 1) ∧ decode cX9_spotsOf 1 = .ok (.iload_n 1, 1) ∧ decode cX9_spotsOf 2 = .ok (.iload_n 2, 1) ∧ decode cX9_spotsOf 3 = .ok (.iload_n 3, 1) ∧ decode cX9_spotsOf 4 = .ok (.if_icmp .ne 7, 3) ∧ decode cX9_spotsOf 7 = .ok (.iconst 1, 1) ∧ decode cX9_spotsOf 8 = .ok (.goto 4, 3) ∧ decode cX9_spotsOf 11 = .ok (.iconst 2, 1) ∧ decode cX9_spotsOf 12 = .ok (.invokevirtual 96, 3) ∧ decode cX9_spotsOf 15 = .ok (.ireturn, 1) := by decide +kernel
theorem dX9_spotsOf_0 : decode cX9_spotsOf 0 = .ok (.aload_n 0, 1) := dgX9_spotsOf_0.1
theorem dX9_spotsOf_1 : decode cX9_spotsOf 1 = .ok (.iload_n 1, 1) := dgX9_spotsOf_0.2.1
theorem dX9_spotsOf_2 : decode cX9_spotsOf 2 = .ok (.iload_n 2, 1) := dgX9_spotsOf_0.2.2.1
theorem dX9_spotsOf_3 : decode cX9_spotsOf 3 = .ok (.iload_n 3, 1) := dgX9_spotsOf_0.2.2.2.1
theorem dX9_spotsOf_4 : decode cX9_spotsOf 4 = .ok (.if_icmp .ne 7, 3) := dgX9_spotsOf_0.2.2.2.2.1
theorem dX9_spotsOf_7 : decode cX9_spotsOf 7 = .ok (.iconst 1, 1) := dgX9_spotsOf_0.2.2.2.2.2.1
theorem dX9_spotsOf_8 : decode cX9_spotsOf 8 = .ok (.goto 4, 3) := dgX9_spotsOf_0.2.2.2.2.2.2.1
theorem dX9_spotsOf_11 : decode cX9_spotsOf 11 = .ok (.iconst 2, 1) := dgX9_spotsOf_0.2.2.2.2.2.2.2.1
theorem dX9_spotsOf_12 : decode cX9_spotsOf 12 = .ok (.invokevirtual 96, 3) := dgX9_spotsOf_0.2.2.2.2.2.2.2.2.1
theorem dX9_spotsOf_15 : decode cX9_spotsOf 15 = .ok (.ireturn, 1) := dgX9_spotsOf_0.2.2.2.2.2.2.2.2.2
abbrev pX9_spotsOf : List Nat := [0, 11, 12]
def bX9_spotsOf_0 (cal : ab_F) : ab_K := o_aload 0 <| o_iload 1 <| o_iload 2 <| o_iload 3 <| o_cmp (fun x y => decide (¬ x = y)) 1 <| o_push (.int 1) <| o_goto 2
def bX9_spotsOf_1 (cal : ab_F) : ab_K := o_push (.int 2) <| o_goto 2
def bX9_spotsOf_2 (cal : ab_F) : ab_K := o_callV cal 135 2 8 <| o_ret (some .int)
def bX9_spotsOf (cal : ab_F) : List ab_K := [bX9_spotsOf_0 cal, bX9_spotsOf_1 cal, bX9_spotsOf_2 cal]
set_option maxRecDepth 100000 in
theorem sX9_spotsOf_0 {G : ab_G} {xs : List Int32} {d : Nat} {cal : ab_F} (hcs : ab_CS G (ab_Z G xs) ab_Mf cal d) : ab_Sd G (ab_Z G xs) (d + 1) (ab_mY mX9_spotsOf pX9_spotsOf) 0 (bX9_spotsOf_0 cal) :=
  sn_aload_n dX9_spotsOf_0 rfl <| sn_iload_n dX9_spotsOf_1 rfl <| sn_iload_n dX9_spotsOf_2 rfl <| sn_iload_n dX9_spotsOf_3 rfl <| sn_cmp_ne (tg := 11) dX9_spotsOf_4 rfl rfl <| sn_iconst dX9_spotsOf_7 rfl <| sn_goto (tg := 12) dX9_spotsOf_8 rfl rfl
set_option maxRecDepth 100000 in
theorem sX9_spotsOf_1 {G : ab_G} {xs : List Int32} {d : Nat} {cal : ab_F} (hcs : ab_CS G (ab_Z G xs) ab_Mf cal d) : ab_Sd G (ab_Z G xs) (d + 1) (ab_mY mX9_spotsOf pX9_spotsOf) 11 (bX9_spotsOf_1 cal) :=
  sn_iconst dX9_spotsOf_11 rfl <| sn_next rfl
set_option maxRecDepth 100000 in
theorem sX9_spotsOf_2 {G : ab_G} {xs : List Int32} {d : Nat} {cal : ab_F} (hcs : ab_CS G (ab_Z G xs) ab_Mf cal d) : ab_Sd G (ab_Z G xs) (d + 1) (ab_mY mX9_spotsOf pX9_spotsOf) 12 (bX9_spotsOf_2 cal) :=
  sq_callV mt_135 hcs dX9_spotsOf_12 rfl w_1123 w_1125 w_18 w_63 w_1126 hy_135 hm_135 <| sn_ret dX9_spotsOf_15 ab_ri_int
theorem sX9_spotsOf {G : ab_G} {xs : List Int32} {d : Nat} {cal : ab_F} (hcs : ab_CS G (ab_Z G xs) ab_Mf cal d) : ab_BS G (ab_Z G xs) (d + 1) (ab_mY mX9_spotsOf pX9_spotsOf) pX9_spotsOf (bX9_spotsOf cal) := ⟨sX9_spotsOf_0 hcs, sX9_spotsOf_1 hcs, sX9_spotsOf_2 hcs, trivial⟩
theorem dgX9_darkOf_0 : decode cX9_darkOf 0 = .ok (.aload_n 0, 1) ∧ decode cX9_darkOf 1 = .ok (.iconst 0, 1) ∧ decode cX9_darkOf 2 = .ok (.invokevirtual 111, 3) ∧ decode cX9_darkOf 5 = .ok (.istore 4, 2) ∧ decode cX9_darkOf 7 = .ok (.aload_n 0, 1) ∧ decode cX9_darkOf 8 = .ok (.getfield 55, 3) ∧ decode cX9_darkOf 11 = .ok (.iconst 0, 1) ∧ decode cX9_darkOf 12 = .ok (.iload_n 2, 1) ∧ decode cX9_darkOf 13 = .ok (.iastore, 1) ∧ decode cX9_darkOf 14 = .ok (.aload_n 0, 1) ∧ decode cX9_darkOf 15 = .ok (.getfield 55, 3) ∧ decode cX9_darkOf 18 = .ok (.iconst 1, 1) ∧ decode cX9_darkOf 19 = .ok (.iload_n 3, 1) ∧ decode cX9_darkOf 20 = .ok (.iastore, 1) ∧ decode cX9_darkOf 21 = .ok (.aload_n 0, 1) ∧ decode cX9_darkOf 22 = .ok (.getfield 55, 3) := by decide +kernel
theorem dX9_darkOf_0 : decode cX9_darkOf 0 = .ok (.aload_n 0, 1) := dgX9_darkOf_0.1
theorem dX9_darkOf_1 : decode cX9_darkOf 1 = .ok (.iconst 0, 1) := dgX9_darkOf_0.2.1
theorem dX9_darkOf_2 : decode cX9_darkOf 2 = .ok (.invokevirtual 111, 3) := dgX9_darkOf_0.2.2.1
theorem dX9_darkOf_5 : decode cX9_darkOf 5 = .ok (.istore 4, 2) := dgX9_darkOf_0.2.2.2.1
theorem dX9_darkOf_7 : decode cX9_darkOf 7 = .ok (.aload_n 0, 1) := dgX9_darkOf_0.2.2.2.2.1
theorem dX9_darkOf_8 : decode cX9_darkOf 8 = .ok (.getfield 55, 3) := dgX9_darkOf_0.2.2.2.2.2.1
theorem dX9_darkOf_11 : decode cX9_darkOf 11 = .ok (.iconst 0, 1) := dgX9_darkOf_0.2.2.2.2.2.2.1
theorem dX9_darkOf_12 : decode cX9_darkOf 12 = .ok (.iload_n 2, 1) := dgX9_darkOf_0.2.2.2.2.2.2.2.1
theorem dX9_darkOf_13 : decode cX9_darkOf 13 = .ok (.iastore, 1) := dgX9_darkOf_0.2.2.2.2.2.2.2.2.1
theorem dX9_darkOf_14 : decode cX9_darkOf 14 = .ok (.aload_n 0, 1) := dgX9_darkOf_0.2.2.2.2.2.2.2.2.2.1
theorem dX9_darkOf_15 : decode cX9_darkOf 15 = .ok (.getfield 55, 3) := dgX9_darkOf_0.2.2.2.2.2.2.2.2.2.2.1
theorem dX9_darkOf_18 : decode cX9_darkOf 18 = .ok (.iconst 1, 1) := dgX9_darkOf_0.2.2.2.2.2.2.2.2.2.2.2.1
theorem dX9_darkOf_19 : decode cX9_darkOf 19 = .ok (.iload_n 3, 1) := dgX9_darkOf_0.2.2.2.2.2.2.2.2.2.2.2.2.1
theorem dX9_darkOf_20 : decode cX9_darkOf 20 = .ok (.iastore, 1) := dgX9_darkOf_0.2.2.2.2.2.2.2.2.2.2.2.2.2.1
theorem dX9_darkOf_21 : decode cX9_darkOf 21 = .ok (.aload_n 0, 1) := dgX9_darkOf_0.2.2.2.2.2.2.2.2.2.2.2.2.2.2.1
theorem dX9_darkOf_22 : decode cX9_darkOf 22 = .ok (.getfield 55, 3) := dgX9_darkOf_0.2.2.2.2.2.2.2.2.2.2.2.2.2.2.2
theorem dgX9_darkOf_1 : decode cX9_darkOf 25 = .ok (.iconst 2, 1) ∧ decode cX9_darkOf 26 = .ok (.aload_n 0, 1) ∧ decode cX9_darkOf 27 = .ok (.iload_n 1, 1) ∧ decode cX9_darkOf 28 = .ok (.invokevirtual 104, 3) ∧ decode cX9_darkOf 31 = .ok (.iastore, 1) ∧ decode cX9_darkOf 32 = .ok (.iload 4, 2) ∧ decode cX9_darkOf 34 = .ok (.ifCond .ge 10, 3) ∧ decode cX9_darkOf 37 = .ok (.bipush 15, 2) ∧ decode cX9_darkOf 39 = .ok (.iload_n 2, 1) ∧ decode cX9_darkOf 40 = .ok (.imul, 1) ∧ decode cX9_darkOf 41 = .ok (.goto 15, 3) ∧ decode cX9_darkOf 44 = .ok (.aload_n 0, 1) ∧ decode cX9_darkOf 45 = .ok (.iload 4, 2) ∧ decode cX9_darkOf 47 = .ok (.invokevirtual 114, 3) ∧ decode cX9_darkOf 50 = .ok (.iconst 0, 1) ∧ decode cX9_darkOf 51 = .ok (.bipush 99, 2) := by decide +kernel
theorem dX9_darkOf_25 : decode cX9_darkOf 25 = .ok (.iconst 2, 1) := dgX9_darkOf_1.1
theorem dX9_darkOf_26 : decode cX9_darkOf 26 = .ok (.aload_n 0, 1) := dgX9_darkOf_1.2.1
theorem dX9_darkOf_27 : decode cX9_darkOf 27 = .ok (.iload_n 1, 1) := dgX9_darkOf_1.2.2.1
theorem dX9_darkOf_28 : decode cX9_darkOf 28 = .ok (.invokevirtual 104, 3) := dgX9_darkOf_1.2.2.2.1
theorem dX9_darkOf_31 : decode cX9_darkOf 31 = .ok (.iastore, 1) := dgX9_darkOf_1.2.2.2.2.1
theorem dX9_darkOf_32 : decode cX9_darkOf 32 = .ok (.iload 4, 2) := dgX9_darkOf_1.2.2.2.2.2.1
theorem dX9_darkOf_34 : decode cX9_darkOf 34 = .ok (.ifCond .ge 10, 3) := dgX9_darkOf_1.2.2.2.2.2.2.1
theorem dX9_darkOf_37 : decode cX9_darkOf 37 = .ok (.bipush 15, 2) := dgX9_darkOf_1.2.2.2.2.2.2.2.1
theorem dX9_darkOf_39 : decode cX9_darkOf 39 = .ok (.iload_n 2, 1) := dgX9_darkOf_1.2.2.2.2.2.2.2.2.1
theorem dX9_darkOf_40 : decode cX9_darkOf 40 = .ok (.imul, 1) := dgX9_darkOf_1.2.2.2.2.2.2.2.2.2.1
theorem dX9_darkOf_41 : decode cX9_darkOf 41 = .ok (.goto 15, 3) := dgX9_darkOf_1.2.2.2.2.2.2.2.2.2.2.1
theorem dX9_darkOf_44 : decode cX9_darkOf 44 = .ok (.aload_n 0, 1) := dgX9_darkOf_1.2.2.2.2.2.2.2.2.2.2.2.1
theorem dX9_darkOf_45 : decode cX9_darkOf 45 = .ok (.iload 4, 2) := dgX9_darkOf_1.2.2.2.2.2.2.2.2.2.2.2.2.1
theorem dX9_darkOf_47 : decode cX9_darkOf 47 = .ok (.invokevirtual 114, 3) := dgX9_darkOf_1.2.2.2.2.2.2.2.2.2.2.2.2.2.1
theorem dX9_darkOf_50 : decode cX9_darkOf 50 = .ok (.iconst 0, 1) := dgX9_darkOf_1.2.2.2.2.2.2.2.2.2.2.2.2.2.2.1
theorem dX9_darkOf_51 : decode cX9_darkOf 51 = .ok (.bipush 99, 2) := dgX9_darkOf_1.2.2.2.2.2.2.2.2.2.2.2.2.2.2.2
theorem dgX9_darkOf_2 : decode cX9_darkOf 53 = .ok (.invokestatic 117, 3) ∧ decode cX9_darkOf 56 = .ok (.istore 5, 2) ∧ decode cX9_darkOf 58 = .ok (.aload_n 0, 1) ∧ decode cX9_darkOf 59 = .ok (.iload_n 1, 1) ∧ decode cX9_darkOf 60 = .ok (.iconst 0, 1) ∧ decode cX9_darkOf 61 = .ok (.invokevirtual 96, 3) ∧ decode cX9_darkOf 64 = .ok (.tableswitch 85 1 5 #[36, 48, 54, 71, 83], 36) ∧ decode cX9_darkOf 100 = .ok (.iload 5, 2) ∧ decode cX9_darkOf 102 = .ok (.bipush 10, 2) ∧ decode cX9_darkOf 104 = .ok (.isub, 1) ∧ decode cX9_darkOf 105 = .ok (.iconst 0, 1) ∧ decode cX9_darkOf 106 = .ok (.bipush 99, 2) ∧ decode cX9_darkOf 108 = .ok (.invokestatic 117, 3) ∧ decode cX9_darkOf 111 = .ok (.ireturn, 1) ∧ decode cX9_darkOf 112 = .ok (.bipush 99, 2) ∧ decode cX9_darkOf 114 = .ok (.iload 5, 2) := by decide +kernel
theorem dX9_darkOf_53 : decode cX9_darkOf 53 = .ok (.invokestatic 117, 3) := dgX9_darkOf_2.1
theorem dX9_darkOf_56 : decode cX9_darkOf 56 = .ok (.istore 5, 2) := dgX9_darkOf_2.2.1
theorem dX9_darkOf_58 : decode cX9_darkOf 58 = .ok (.aload_n 0, 1) := dgX9_darkOf_2.2.2.1
theorem dX9_darkOf_59 : decode cX9_darkOf 59 = .ok (.iload_n 1, 1) := dgX9_darkOf_2.2.2.2.1
theorem dX9_darkOf_60 : decode cX9_darkOf 60 = .ok (.iconst 0, 1) := dgX9_darkOf_2.2.2.2.2.1
theorem dX9_darkOf_61 : decode cX9_darkOf 61 = .ok (.invokevirtual 96, 3) := dgX9_darkOf_2.2.2.2.2.2.1
theorem dX9_darkOf_64 : decode cX9_darkOf 64 = .ok (.tableswitch 85 1 5 #[36, 48, 54, 71, 83], 36) := dgX9_darkOf_2.2.2.2.2.2.2.1
theorem dX9_darkOf_100 : decode cX9_darkOf 100 = .ok (.iload 5, 2) := dgX9_darkOf_2.2.2.2.2.2.2.2.1
theorem dX9_darkOf_102 : decode cX9_darkOf 102 = .ok (.bipush 10, 2) := dgX9_darkOf_2.2.2.2.2.2.2.2.2.1
theorem dX9_darkOf_104 : decode cX9_darkOf 104 = .ok (.isub, 1) := dgX9_darkOf_2.2.2.2.2.2.2.2.2.2.1
theorem dX9_darkOf_105 : decode cX9_darkOf 105 = .ok (.iconst 0, 1) := dgX9_darkOf_2.2.2.2.2.2.2.2.2.2.2.1
theorem dX9_darkOf_106 : decode cX9_darkOf 106 = .ok (.bipush 99, 2) := dgX9_darkOf_2.2.2.2.2.2.2.2.2.2.2.2.1
theorem dX9_darkOf_108 : decode cX9_darkOf 108 = .ok (.invokestatic 117, 3) := dgX9_darkOf_2.2.2.2.2.2.2.2.2.2.2.2.2.1
theorem dX9_darkOf_111 : decode cX9_darkOf 111 = .ok (.ireturn, 1) := dgX9_darkOf_2.2.2.2.2.2.2.2.2.2.2.2.2.2.1
theorem dX9_darkOf_112 : decode cX9_darkOf 112 = .ok (.bipush 99, 2) := dgX9_darkOf_2.2.2.2.2.2.2.2.2.2.2.2.2.2.2.1
theorem dX9_darkOf_114 : decode cX9_darkOf 114 = .ok (.iload 5, 2) := dgX9_darkOf_2.2.2.2.2.2.2.2.2.2.2.2.2.2.2.2
theorem dgX9_darkOf_3 : decode cX9_darkOf 116 = .ok (.isub, 1) ∧ decode cX9_darkOf 117 = .ok (.ireturn, 1) ∧ decode cX9_darkOf 118 = .ok (.iload 5, 2) ∧ decode cX9_darkOf 120 = .ok (.bipush 10, 2) ∧ decode cX9_darkOf 122 = .ok (.isub, 1) ∧ decode cX9_darkOf 123 = .ok (.iconst 0, 1) ∧ decode cX9_darkOf 124 = .ok (.bipush 99, 2) ∧ decode cX9_darkOf 126 = .ok (.invokestatic 117, 3) ∧ decode cX9_darkOf 129 = .ok (.bipush 60, 2) ∧ decode cX9_darkOf 131 = .ok (.iadd, 1) ∧ decode cX9_darkOf 132 = .ok (.iconst 2, 1) ∧ decode cX9_darkOf 133 = .ok (.idiv, 1) ∧ decode cX9_darkOf 134 = .ok (.ireturn, 1) ∧ decode cX9_darkOf 135 = .ok (.bipush 104, 2) ∧ decode cX9_darkOf 137 = .ok (.iload 5, 2) ∧ decode cX9_darkOf 139 = .ok (.isub, 1) := by decide +kernel
theorem dX9_darkOf_116 : decode cX9_darkOf 116 = .ok (.isub, 1) := dgX9_darkOf_3.1
theorem dX9_darkOf_117 : decode cX9_darkOf 117 = .ok (.ireturn, 1) := dgX9_darkOf_3.2.1
theorem dX9_darkOf_118 : decode cX9_darkOf 118 = .ok (.iload 5, 2) := dgX9_darkOf_3.2.2.1
theorem dX9_darkOf_120 : decode cX9_darkOf 120 = .ok (.bipush 10, 2) := dgX9_darkOf_3.2.2.2.1
theorem dX9_darkOf_122 : decode cX9_darkOf 122 = .ok (.isub, 1) := dgX9_darkOf_3.2.2.2.2.1
theorem dX9_darkOf_123 : decode cX9_darkOf 123 = .ok (.iconst 0, 1) := dgX9_darkOf_3.2.2.2.2.2.1
theorem dX9_darkOf_124 : decode cX9_darkOf 124 = .ok (.bipush 99, 2) := dgX9_darkOf_3.2.2.2.2.2.2.1
theorem dX9_darkOf_126 : decode cX9_darkOf 126 = .ok (.invokestatic 117, 3) := dgX9_darkOf_3.2.2.2.2.2.2.2.1
theorem dX9_darkOf_129 : decode cX9_darkOf 129 = .ok (.bipush 60, 2) := dgX9_darkOf_3.2.2.2.2.2.2.2.2.1
theorem dX9_darkOf_131 : decode cX9_darkOf 131 = .ok (.iadd, 1) := dgX9_darkOf_3.2.2.2.2.2.2.2.2.2.1
theorem dX9_darkOf_132 : decode cX9_darkOf 132 = .ok (.iconst 2, 1) := dgX9_darkOf_3.2.2.2.2.2.2.2.2.2.2.1
theorem dX9_darkOf_133 : decode cX9_darkOf 133 = .ok (.idiv, 1) := dgX9_darkOf_3.2.2.2.2.2.2.2.2.2.2.2.1
theorem dX9_darkOf_134 : decode cX9_darkOf 134 = .ok (.ireturn, 1) := dgX9_darkOf_3.2.2.2.2.2.2.2.2.2.2.2.2.1
theorem dX9_darkOf_135 : decode cX9_darkOf 135 = .ok (.bipush 104, 2) := dgX9_darkOf_3.2.2.2.2.2.2.2.2.2.2.2.2.2.1
theorem dX9_darkOf_137 : decode cX9_darkOf 137 = .ok (.iload 5, 2) := dgX9_darkOf_3.2.2.2.2.2.2.2.2.2.2.2.2.2.2.1
theorem dX9_darkOf_139 : decode cX9_darkOf 139 = .ok (.isub, 1) := dgX9_darkOf_3.2.2.2.2.2.2.2.2.2.2.2.2.2.2.2
theorem dgX9_darkOf_4 : decode cX9_darkOf 140 = .ok (.iconst 0, 1) ∧ decode cX9_darkOf 141 = .ok (.bipush 99, 2) ∧ decode cX9_darkOf 143 = .ok (.invokestatic 117, 3) ∧ decode cX9_darkOf 146 = .ok (.ireturn, 1) ∧ decode cX9_darkOf 147 = .ok (.iconst 0, 1) ∧ decode cX9_darkOf 148 = .ok (.ireturn, 1) ∧ decode cX9_darkOf 149 = .ok (.iload 5, 2) ∧ decode cX9_darkOf 151 = .ok (.ireturn, 1) := by decide +kernel
theorem dX9_darkOf_140 : decode cX9_darkOf 140 = .ok (.iconst 0, 1) := dgX9_darkOf_4.1
theorem dX9_darkOf_141 : decode cX9_darkOf 141 = .ok (.bipush 99, 2) := dgX9_darkOf_4.2.1
theorem dX9_darkOf_143 : decode cX9_darkOf 143 = .ok (.invokestatic 117, 3) := dgX9_darkOf_4.2.2.1
theorem dX9_darkOf_146 : decode cX9_darkOf 146 = .ok (.ireturn, 1) := dgX9_darkOf_4.2.2.2.1
theorem dX9_darkOf_147 : decode cX9_darkOf 147 = .ok (.iconst 0, 1) := dgX9_darkOf_4.2.2.2.2.1
theorem dX9_darkOf_148 : decode cX9_darkOf 148 = .ok (.ireturn, 1) := dgX9_darkOf_4.2.2.2.2.2.1
theorem dX9_darkOf_149 : decode cX9_darkOf 149 = .ok (.iload 5, 2) := dgX9_darkOf_4.2.2.2.2.2.2.1
theorem dX9_darkOf_151 : decode cX9_darkOf 151 = .ok (.ireturn, 1) := dgX9_darkOf_4.2.2.2.2.2.2.2
abbrev pX9_darkOf : List Nat := [0, 44, 56, 100, 112, 118, 135, 147, 149]
def bX9_darkOf_0 (cal : ab_F) : ab_K := o_aload 0 <| o_push (.int 0) <| o_callV cal 202 1 8 <| o_istore 4 <| o_aload 0 <| o_getf 8 25 <| o_push (.int 0) <| o_iload 2 <| o_iast 0 (fun x => x) <| o_aload 0 <| o_getf 8 25 <| o_push (.int 1) <| o_iload 3 <| o_iast 0 (fun x => x) <| o_aload 0 <| o_getf 8 25 <| o_push (.int 2) <| o_aload 0 <| o_iload 1 <| o_callV cal 139 1 8 <| o_iast 0 (fun x => x) <| o_iload 4 <| o_if (fun x => decide (0 ≤ x)) 1 <| o_push (.int 15) <| o_iload 2 <| o_bin (fun x y => x * y) <| o_goto 2
def bX9_darkOf_1 (cal : ab_F) : ab_K := o_aload 0 <| o_iload 4 <| o_callV cal 205 1 8 <| o_push (.int 0) <| o_push (.int 99) <| o_callS cal 129 3 <| o_goto 2
def bX9_darkOf_2 (cal : ab_F) : ab_K := o_istore 5 <| o_aload 0 <| o_iload 1 <| o_push (.int 0) <| o_callV cal 135 2 8 <| o_sw (ab_tsw 1 [3, 4, 5, 6, 7] 8)
def bX9_darkOf_3 (cal : ab_F) : ab_K := o_iload 5 <| o_push (.int 10) <| o_bin (fun x y => x - y) <| o_push (.int 0) <| o_push (.int 99) <| o_callS cal 129 3 <| o_ret (some .int)
def bX9_darkOf_4 (cal : ab_F) : ab_K := o_push (.int 99) <| o_iload 5 <| o_bin (fun x y => x - y) <| o_ret (some .int)
def bX9_darkOf_5 (cal : ab_F) : ab_K := o_iload 5 <| o_push (.int 10) <| o_bin (fun x y => x - y) <| o_push (.int 0) <| o_push (.int 99) <| o_callS cal 129 3 <| o_push (.int 60) <| o_bin (fun x y => x + y) <| o_push (.int 2) <| o_div (fun x y => x / y) <| o_ret (some .int)
def bX9_darkOf_6 (cal : ab_F) : ab_K := o_push (.int 104) <| o_iload 5 <| o_bin (fun x y => x - y) <| o_push (.int 0) <| o_push (.int 99) <| o_callS cal 129 3 <| o_ret (some .int)
def bX9_darkOf_7 (cal : ab_F) : ab_K := o_push (.int 0) <| o_ret (some .int)
def bX9_darkOf_8 (cal : ab_F) : ab_K := o_iload 5 <| o_ret (some .int)
def bX9_darkOf (cal : ab_F) : List ab_K := [bX9_darkOf_0 cal, bX9_darkOf_1 cal, bX9_darkOf_2 cal, bX9_darkOf_3 cal, bX9_darkOf_4 cal, bX9_darkOf_5 cal, bX9_darkOf_6 cal, bX9_darkOf_7 cal, bX9_darkOf_8 cal]
set_option maxRecDepth 100000 in
theorem sX9_darkOf_0 {G : ab_G} {xs : List Int32} {d : Nat} {cal : ab_F} (hcs : ab_CS G (ab_Z G xs) ab_Mf cal d) : ab_Sd G (ab_Z G xs) (d + 1) (ab_mY mX9_darkOf pX9_darkOf) 0 (bX9_darkOf_0 cal) :=
  sn_aload_n dX9_darkOf_0 rfl <| sn_iconst dX9_darkOf_1 rfl <| sq_callV mt_202 hcs dX9_darkOf_2 rfl w_1154 w_1156 w_24 w_63 w_1157 hy_202 hm_202 <| sn_istore dX9_darkOf_5 (by decide) <| sn_aload_n dX9_darkOf_7 rfl <| sn_getf dX9_darkOf_8 rfl hinX9 (by decide) w_1016 <| sn_iconst dX9_darkOf_11 rfl <| sn_iload_n dX9_darkOf_12 rfl <| sn_iast dX9_darkOf_13 rfl rfl <| sn_aload_n dX9_darkOf_14 rfl <| sn_getf dX9_darkOf_15 rfl hinX9 (by decide) w_1016 <| sn_iconst dX9_darkOf_18 rfl <| sn_iload_n dX9_darkOf_19 rfl <| sn_iast dX9_darkOf_20 rfl rfl <| sn_aload_n dX9_darkOf_21 rfl <| sn_getf dX9_darkOf_22 rfl hinX9 (by decide) w_1016 <| sn_iconst dX9_darkOf_25 rfl <| sn_aload_n dX9_darkOf_26 rfl <| sn_iload_n dX9_darkOf_27 rfl <| sq_callV mt_139 hcs dX9_darkOf_28 rfl w_1127 w_1129 w_19 w_63 w_1130 hy_139 hm_139 <| sn_iast dX9_darkOf_31 rfl rfl <| sn_iload dX9_darkOf_32 <| sn_if_ge (tg := 44) dX9_darkOf_34 rfl rfl <| sn_bipush dX9_darkOf_37 rfl <| sn_iload_n dX9_darkOf_39 rfl <| sn_imul dX9_darkOf_40 <| sn_goto (tg := 56) dX9_darkOf_41 rfl rfl
set_option maxRecDepth 100000 in
theorem sX9_darkOf_1 {G : ab_G} {xs : List Int32} {d : Nat} {cal : ab_F} (hcs : ab_CS G (ab_Z G xs) ab_Mf cal d) : ab_Sd G (ab_Z G xs) (d + 1) (ab_mY mX9_darkOf pX9_darkOf) 44 (bX9_darkOf_1 cal) :=
  sn_aload_n dX9_darkOf_44 rfl <| sn_iload dX9_darkOf_45 <| sq_callV mt_205 hcs dX9_darkOf_47 rfl w_1158 w_1160 w_25 w_63 w_1161 hy_205 hm_205 <| sn_iconst dX9_darkOf_50 rfl <| sn_bipush dX9_darkOf_51 rfl <| sq_callS mt_129 hcs dX9_darkOf_53 w_1165 w_1166 w_63 w_1167 hy_129 hm_129 <| sn_next rfl
set_option maxRecDepth 100000 in
theorem sX9_darkOf_2 {G : ab_G} {xs : List Int32} {d : Nat} {cal : ab_F} (hcs : ab_CS G (ab_Z G xs) ab_Mf cal d) : ab_Sd G (ab_Z G xs) (d + 1) (ab_mY mX9_darkOf pX9_darkOf) 56 (bX9_darkOf_2 cal) :=
  sn_istore dX9_darkOf_56 (by decide) <| sn_aload_n dX9_darkOf_58 rfl <| sn_iload_n dX9_darkOf_59 rfl <| sn_iconst dX9_darkOf_60 rfl <| sq_callV mt_135 hcs dX9_darkOf_61 rfl w_1123 w_1125 w_18 w_63 w_1126 hy_135 hm_135 <| sn_tsw dX9_darkOf_64 rfl rfl rfl
set_option maxRecDepth 100000 in
theorem sX9_darkOf_3 {G : ab_G} {xs : List Int32} {d : Nat} {cal : ab_F} (hcs : ab_CS G (ab_Z G xs) ab_Mf cal d) : ab_Sd G (ab_Z G xs) (d + 1) (ab_mY mX9_darkOf pX9_darkOf) 100 (bX9_darkOf_3 cal) :=
  sn_iload dX9_darkOf_100 <| sn_bipush dX9_darkOf_102 rfl <| sn_isub dX9_darkOf_104 <| sn_iconst dX9_darkOf_105 rfl <| sn_bipush dX9_darkOf_106 rfl <| sq_callS mt_129 hcs dX9_darkOf_108 w_1165 w_1166 w_63 w_1167 hy_129 hm_129 <| sn_ret dX9_darkOf_111 ab_ri_int
set_option maxRecDepth 100000 in
theorem sX9_darkOf_4 {G : ab_G} {xs : List Int32} {d : Nat} {cal : ab_F} (hcs : ab_CS G (ab_Z G xs) ab_Mf cal d) : ab_Sd G (ab_Z G xs) (d + 1) (ab_mY mX9_darkOf pX9_darkOf) 112 (bX9_darkOf_4 cal) :=
  sn_bipush dX9_darkOf_112 rfl <| sn_iload dX9_darkOf_114 <| sn_isub dX9_darkOf_116 <| sn_ret dX9_darkOf_117 ab_ri_int
set_option maxRecDepth 100000 in
theorem sX9_darkOf_5 {G : ab_G} {xs : List Int32} {d : Nat} {cal : ab_F} (hcs : ab_CS G (ab_Z G xs) ab_Mf cal d) : ab_Sd G (ab_Z G xs) (d + 1) (ab_mY mX9_darkOf pX9_darkOf) 118 (bX9_darkOf_5 cal) :=
  sn_iload dX9_darkOf_118 <| sn_bipush dX9_darkOf_120 rfl <| sn_isub dX9_darkOf_122 <| sn_iconst dX9_darkOf_123 rfl <| sn_bipush dX9_darkOf_124 rfl <| sq_callS mt_129 hcs dX9_darkOf_126 w_1165 w_1166 w_63 w_1167 hy_129 hm_129 <| sn_bipush dX9_darkOf_129 rfl <| sn_iadd dX9_darkOf_131 <| sn_iconst dX9_darkOf_132 rfl <| sn_idiv dX9_darkOf_133 <| sn_ret dX9_darkOf_134 ab_ri_int
set_option maxRecDepth 100000 in
theorem sX9_darkOf_6 {G : ab_G} {xs : List Int32} {d : Nat} {cal : ab_F} (hcs : ab_CS G (ab_Z G xs) ab_Mf cal d) : ab_Sd G (ab_Z G xs) (d + 1) (ab_mY mX9_darkOf pX9_darkOf) 135 (bX9_darkOf_6 cal) :=
  sn_bipush dX9_darkOf_135 rfl <| sn_iload dX9_darkOf_137 <| sn_isub dX9_darkOf_139 <| sn_iconst dX9_darkOf_140 rfl <| sn_bipush dX9_darkOf_141 rfl <| sq_callS mt_129 hcs dX9_darkOf_143 w_1165 w_1166 w_63 w_1167 hy_129 hm_129 <| sn_ret dX9_darkOf_146 ab_ri_int
set_option maxRecDepth 100000 in
theorem sX9_darkOf_7 {G : ab_G} {xs : List Int32} {d : Nat} {cal : ab_F} (hcs : ab_CS G (ab_Z G xs) ab_Mf cal d) : ab_Sd G (ab_Z G xs) (d + 1) (ab_mY mX9_darkOf pX9_darkOf) 147 (bX9_darkOf_7 cal) :=
  sn_iconst dX9_darkOf_147 rfl <| sn_ret dX9_darkOf_148 ab_ri_int
set_option maxRecDepth 100000 in
theorem sX9_darkOf_8 {G : ab_G} {xs : List Int32} {d : Nat} {cal : ab_F} (hcs : ab_CS G (ab_Z G xs) ab_Mf cal d) : ab_Sd G (ab_Z G xs) (d + 1) (ab_mY mX9_darkOf pX9_darkOf) 149 (bX9_darkOf_8 cal) :=
  sn_iload dX9_darkOf_149 <| sn_ret dX9_darkOf_151 ab_ri_int
theorem sX9_darkOf {G : ab_G} {xs : List Int32} {d : Nat} {cal : ab_F} (hcs : ab_CS G (ab_Z G xs) ab_Mf cal d) : ab_BS G (ab_Z G xs) (d + 1) (ab_mY mX9_darkOf pX9_darkOf) pX9_darkOf (bX9_darkOf cal) := ⟨sX9_darkOf_0 hcs, sX9_darkOf_1 hcs, sX9_darkOf_2 hcs, sX9_darkOf_3 hcs, sX9_darkOf_4 hcs, sX9_darkOf_5 hcs, sX9_darkOf_6 hcs, sX9_darkOf_7 hcs, sX9_darkOf_8 hcs, trivial⟩
theorem dgX9_offOf_0 : decode cX9_offOf 0 = .ok (.aload_n 0, 1) ∧ decode cX9_offOf 1 = .ok (.iload_n 1, 1) ∧ decode cX9_offOf 2 = .ok (.aload_n 0, 1) ∧ decode cX9_offOf 3 = .ok (.iload_n 1, 1) ∧ decode cX9_offOf 4 = .ok (.iconst 0, 1) ∧ decode cX9_offOf 5 = .ok (.iload_n 3, 1) ∧ decode cX9_offOf 6 = .ok (.invokevirtual 120, 3) ∧ decode cX9_offOf 9 = .ok (.iload_n 2, 1) ∧ decode cX9_offOf 10 = .ok (.iconst 3, 1) ∧ decode cX9_offOf 11 = .ok (.idiv, 1) ∧ decode cX9_offOf 12 = .ok (.invokevirtual 123, 3) ∧ decode cX9_offOf 15 = .ok (.istore 4, 2) ∧ decode cX9_offOf 17 = .ok (.aload_n 0, 1) ∧ decode cX9_offOf 18 = .ok (.iload_n 1, 1) ∧ decode cX9_offOf 19 = .ok (.aload_n 0, 1) ∧ decode cX9_offOf 20 = .ok (.iload_n 1, 1) := by decide +kernel
theorem dX9_offOf_0 : decode cX9_offOf 0 = .ok (.aload_n 0, 1) := dgX9_offOf_0.1
theorem dX9_offOf_1 : decode cX9_offOf 1 = .ok (.iload_n 1, 1) := dgX9_offOf_0.2.1
theorem dX9_offOf_2 : decode cX9_offOf 2 = .ok (.aload_n 0, 1) := dgX9_offOf_0.2.2.1
theorem dX9_offOf_3 : decode cX9_offOf 3 = .ok (.iload_n 1, 1) := dgX9_offOf_0.2.2.2.1
theorem dX9_offOf_4 : decode cX9_offOf 4 = .ok (.iconst 0, 1) := dgX9_offOf_0.2.2.2.2.1
theorem dX9_offOf_5 : decode cX9_offOf 5 = .ok (.iload_n 3, 1) := dgX9_offOf_0.2.2.2.2.2.1
theorem dX9_offOf_6 : decode cX9_offOf 6 = .ok (.invokevirtual 120, 3) := dgX9_offOf_0.2.2.2.2.2.2.1
theorem dX9_offOf_9 : decode cX9_offOf 9 = .ok (.iload_n 2, 1) := dgX9_offOf_0.2.2.2.2.2.2.2.1
theorem dX9_offOf_10 : decode cX9_offOf 10 = .ok (.iconst 3, 1) := dgX9_offOf_0.2.2.2.2.2.2.2.2.1
theorem dX9_offOf_11 : decode cX9_offOf 11 = .ok (.idiv, 1) := dgX9_offOf_0.2.2.2.2.2.2.2.2.2.1
theorem dX9_offOf_12 : decode cX9_offOf 12 = .ok (.invokevirtual 123, 3) := dgX9_offOf_0.2.2.2.2.2.2.2.2.2.2.1
theorem dX9_offOf_15 : decode cX9_offOf 15 = .ok (.istore 4, 2) := dgX9_offOf_0.2.2.2.2.2.2.2.2.2.2.2.1
theorem dX9_offOf_17 : decode cX9_offOf 17 = .ok (.aload_n 0, 1) := dgX9_offOf_0.2.2.2.2.2.2.2.2.2.2.2.2.1
theorem dX9_offOf_18 : decode cX9_offOf 18 = .ok (.iload_n 1, 1) := dgX9_offOf_0.2.2.2.2.2.2.2.2.2.2.2.2.2.1
theorem dX9_offOf_19 : decode cX9_offOf 19 = .ok (.aload_n 0, 1) := dgX9_offOf_0.2.2.2.2.2.2.2.2.2.2.2.2.2.2.1
theorem dX9_offOf_20 : decode cX9_offOf 20 = .ok (.iload_n 1, 1) := dgX9_offOf_0.2.2.2.2.2.2.2.2.2.2.2.2.2.2.2
theorem dgX9_offOf_1 : decode cX9_offOf 21 = .ok (.iconst 1, 1) ∧ decode cX9_offOf 22 = .ok (.iload_n 3, 1) ∧ decode cX9_offOf 23 = .ok (.invokevirtual 120, 3) ∧ decode cX9_offOf 26 = .ok (.iload_n 2, 1) ∧ decode cX9_offOf 27 = .ok (.iconst 3, 1) ∧ decode cX9_offOf 28 = .ok (.idiv, 1) ∧ decode cX9_offOf 29 = .ok (.invokevirtual 123, 3) ∧ decode cX9_offOf 32 = .ok (.istore 5, 2) ∧ decode cX9_offOf 34 = .ok (.iload 4, 2) ∧ decode cX9_offOf 36 = .ok (.aload_n 0, 1) ∧ decode cX9_offOf 37 = .ok (.getfield 9, 3) ∧ decode cX9_offOf 40 = .ok (.iconst 5, 1) ∧ decode cX9_offOf 41 = .ok (.iconst 2, 1) ∧ decode cX9_offOf 42 = .ok (.iload_n 2, 1) ∧ decode cX9_offOf 43 = .ok (.imul, 1) ∧ decode cX9_offOf 44 = .ok (.iadd, 1) := by decide +kernel
theorem dX9_offOf_21 : decode cX9_offOf 21 = .ok (.iconst 1, 1) := dgX9_offOf_1.1
theorem dX9_offOf_22 : decode cX9_offOf 22 = .ok (.iload_n 3, 1) := dgX9_offOf_1.2.1
theorem dX9_offOf_23 : decode cX9_offOf 23 = .ok (.invokevirtual 120, 3) := dgX9_offOf_1.2.2.1
theorem dX9_offOf_26 : decode cX9_offOf 26 = .ok (.iload_n 2, 1) := dgX9_offOf_1.2.2.2.1
theorem dX9_offOf_27 : decode cX9_offOf 27 = .ok (.iconst 3, 1) := dgX9_offOf_1.2.2.2.2.1
theorem dX9_offOf_28 : decode cX9_offOf 28 = .ok (.idiv, 1) := dgX9_offOf_1.2.2.2.2.2.1
theorem dX9_offOf_29 : decode cX9_offOf 29 = .ok (.invokevirtual 123, 3) := dgX9_offOf_1.2.2.2.2.2.2.1
theorem dX9_offOf_32 : decode cX9_offOf 32 = .ok (.istore 5, 2) := dgX9_offOf_1.2.2.2.2.2.2.2.1
theorem dX9_offOf_34 : decode cX9_offOf 34 = .ok (.iload 4, 2) := dgX9_offOf_1.2.2.2.2.2.2.2.2.1
theorem dX9_offOf_36 : decode cX9_offOf 36 = .ok (.aload_n 0, 1) := dgX9_offOf_1.2.2.2.2.2.2.2.2.2.1
theorem dX9_offOf_37 : decode cX9_offOf 37 = .ok (.getfield 9, 3) := dgX9_offOf_1.2.2.2.2.2.2.2.2.2.2.1
theorem dX9_offOf_40 : decode cX9_offOf 40 = .ok (.iconst 5, 1) := dgX9_offOf_1.2.2.2.2.2.2.2.2.2.2.2.1
theorem dX9_offOf_41 : decode cX9_offOf 41 = .ok (.iconst 2, 1) := dgX9_offOf_1.2.2.2.2.2.2.2.2.2.2.2.2.1
theorem dX9_offOf_42 : decode cX9_offOf 42 = .ok (.iload_n 2, 1) := dgX9_offOf_1.2.2.2.2.2.2.2.2.2.2.2.2.2.1
theorem dX9_offOf_43 : decode cX9_offOf 43 = .ok (.imul, 1) := dgX9_offOf_1.2.2.2.2.2.2.2.2.2.2.2.2.2.2.1
theorem dX9_offOf_44 : decode cX9_offOf 44 = .ok (.iadd, 1) := dgX9_offOf_1.2.2.2.2.2.2.2.2.2.2.2.2.2.2.2
theorem dgX9_offOf_2 : decode cX9_offOf 45 = .ok (.iaload, 1) ∧ decode cX9_offOf 46 = .ok (.invokestatic 126, 3) ∧ decode cX9_offOf 49 = .ok (.iload 5, 2) ∧ decode cX9_offOf 51 = .ok (.aload_n 0, 1) ∧ decode cX9_offOf 52 = .ok (.getfield 9, 3) ∧ decode cX9_offOf 55 = .ok (.iconst 5, 1) ∧ decode cX9_offOf 56 = .ok (.iconst 2, 1) ∧ decode cX9_offOf 57 = .ok (.iload_n 2, 1) ∧ decode cX9_offOf 58 = .ok (.imul, 1) ∧ decode cX9_offOf 59 = .ok (.iadd, 1) ∧ decode cX9_offOf 60 = .ok (.iconst 1, 1) ∧ decode cX9_offOf 61 = .ok (.iadd, 1) ∧ decode cX9_offOf 62 = .ok (.iaload, 1) ∧ decode cX9_offOf 63 = .ok (.invokestatic 126, 3) ∧ decode cX9_offOf 66 = .ok (.iadd, 1) ∧ decode cX9_offOf 67 = .ok (.ireturn, 1) := by decide +kernel
theorem dX9_offOf_45 : decode cX9_offOf 45 = .ok (.iaload, 1) := dgX9_offOf_2.1
theorem dX9_offOf_46 : decode cX9_offOf 46 = .ok (.invokestatic 126, 3) := dgX9_offOf_2.2.1
theorem dX9_offOf_49 : decode cX9_offOf 49 = .ok (.iload 5, 2) := dgX9_offOf_2.2.2.1
theorem dX9_offOf_51 : decode cX9_offOf 51 = .ok (.aload_n 0, 1) := dgX9_offOf_2.2.2.2.1
theorem dX9_offOf_52 : decode cX9_offOf 52 = .ok (.getfield 9, 3) := dgX9_offOf_2.2.2.2.2.1
theorem dX9_offOf_55 : decode cX9_offOf 55 = .ok (.iconst 5, 1) := dgX9_offOf_2.2.2.2.2.2.1
theorem dX9_offOf_56 : decode cX9_offOf 56 = .ok (.iconst 2, 1) := dgX9_offOf_2.2.2.2.2.2.2.1
theorem dX9_offOf_57 : decode cX9_offOf 57 = .ok (.iload_n 2, 1) := dgX9_offOf_2.2.2.2.2.2.2.2.1
theorem dX9_offOf_58 : decode cX9_offOf 58 = .ok (.imul, 1) := dgX9_offOf_2.2.2.2.2.2.2.2.2.1
theorem dX9_offOf_59 : decode cX9_offOf 59 = .ok (.iadd, 1) := dgX9_offOf_2.2.2.2.2.2.2.2.2.2.1
theorem dX9_offOf_60 : decode cX9_offOf 60 = .ok (.iconst 1, 1) := dgX9_offOf_2.2.2.2.2.2.2.2.2.2.2.1
theorem dX9_offOf_61 : decode cX9_offOf 61 = .ok (.iadd, 1) := dgX9_offOf_2.2.2.2.2.2.2.2.2.2.2.2.1
theorem dX9_offOf_62 : decode cX9_offOf 62 = .ok (.iaload, 1) := dgX9_offOf_2.2.2.2.2.2.2.2.2.2.2.2.2.1
theorem dX9_offOf_63 : decode cX9_offOf 63 = .ok (.invokestatic 126, 3) := dgX9_offOf_2.2.2.2.2.2.2.2.2.2.2.2.2.2.1
theorem dX9_offOf_66 : decode cX9_offOf 66 = .ok (.iadd, 1) := dgX9_offOf_2.2.2.2.2.2.2.2.2.2.2.2.2.2.2.1
theorem dX9_offOf_67 : decode cX9_offOf 67 = .ok (.ireturn, 1) := dgX9_offOf_2.2.2.2.2.2.2.2.2.2.2.2.2.2.2.2
abbrev pX9_offOf : List Nat := [0]
def bX9_offOf_0 (cal : ab_F) : ab_K := o_aload 0 <| o_iload 1 <| o_aload 0 <| o_iload 1 <| o_push (.int 0) <| o_iload 3 <| o_callV cal 142 3 8 <| o_iload 2 <| o_push (.int 3) <| o_div (fun x y => x / y) <| o_callV cal 143 3 8 <| o_istore 4 <| o_aload 0 <| o_iload 1 <| o_aload 0 <| o_iload 1 <| o_push (.int 1) <| o_iload 3 <| o_callV cal 142 3 8 <| o_iload 2 <| o_push (.int 3) <| o_div (fun x y => x / y) <| o_callV cal 143 3 8 <| o_istore 5 <| o_iload 4 <| o_aload 0 <| o_getf 8 0 <| o_push (.int 5) <| o_push (.int 2) <| o_iload 2 <| o_bin (fun x y => x * y) <| o_bin (fun x y => x + y) <| o_iald 0 <| o_callS cal 130 2 <| o_iload 5 <| o_aload 0 <| o_getf 8 0 <| o_push (.int 5) <| o_push (.int 2) <| o_iload 2 <| o_bin (fun x y => x * y) <| o_bin (fun x y => x + y) <| o_push (.int 1) <| o_bin (fun x y => x + y) <| o_iald 0 <| o_callS cal 130 2 <| o_bin (fun x y => x + y) <| o_ret (some .int)
def bX9_offOf (cal : ab_F) : List ab_K := [bX9_offOf_0 cal]
set_option maxRecDepth 100000 in
theorem sX9_offOf_0 {G : ab_G} {xs : List Int32} {d : Nat} {cal : ab_F} (hcs : ab_CS G (ab_Z G xs) ab_Mf cal d) : ab_Sd G (ab_Z G xs) (d + 1) (ab_mY mX9_offOf pX9_offOf) 0 (bX9_offOf_0 cal) :=
  sn_aload_n dX9_offOf_0 rfl <| sn_iload_n dX9_offOf_1 rfl <| sn_aload_n dX9_offOf_2 rfl <| sn_iload_n dX9_offOf_3 rfl <| sn_iconst dX9_offOf_4 rfl <| sn_iload_n dX9_offOf_5 rfl <| sq_callV mt_142 hcs dX9_offOf_6 rfl w_1146 w_1148 w_22 w_63 w_1149 hy_142 hm_142 <| sn_iload_n dX9_offOf_9 rfl <| sn_iconst dX9_offOf_10 rfl <| sn_idiv dX9_offOf_11 <| sq_callV mt_143 hcs dX9_offOf_12 rfl w_1150 w_1152 w_23 w_63 w_1153 hy_143 hm_143 <| sn_istore dX9_offOf_15 (by decide) <| sn_aload_n dX9_offOf_17 rfl <| sn_iload_n dX9_offOf_18 rfl <| sn_aload_n dX9_offOf_19 rfl <| sn_iload_n dX9_offOf_20 rfl <| sn_iconst dX9_offOf_21 rfl <| sn_iload_n dX9_offOf_22 rfl <| sq_callV mt_142 hcs dX9_offOf_23 rfl w_1146 w_1148 w_22 w_63 w_1149 hy_142 hm_142 <| sn_iload_n dX9_offOf_26 rfl <| sn_iconst dX9_offOf_27 rfl <| sn_idiv dX9_offOf_28 <| sq_callV mt_143 hcs dX9_offOf_29 rfl w_1150 w_1152 w_23 w_63 w_1153 hy_143 hm_143 <| sn_istore dX9_offOf_32 (by decide) <| sn_iload dX9_offOf_34 <| sn_aload_n dX9_offOf_36 rfl <| sn_getf dX9_offOf_37 rfl hinX9 (by decide) w_991 <| sn_iconst dX9_offOf_40 rfl <| sn_iconst dX9_offOf_41 rfl <| sn_iload_n dX9_offOf_42 rfl <| sn_imul dX9_offOf_43 <| sn_iadd dX9_offOf_44 <| sn_iald dX9_offOf_45 rfl <| sq_callS mt_130 hcs dX9_offOf_46 w_1168 w_1169 w_63 w_1170 hy_130 hm_130 <| sn_iload dX9_offOf_49 <| sn_aload_n dX9_offOf_51 rfl <| sn_getf dX9_offOf_52 rfl hinX9 (by decide) w_991 <| sn_iconst dX9_offOf_55 rfl <| sn_iconst dX9_offOf_56 rfl <| sn_iload_n dX9_offOf_57 rfl <| sn_imul dX9_offOf_58 <| sn_iadd dX9_offOf_59 <| sn_iconst dX9_offOf_60 rfl <| sn_iadd dX9_offOf_61 <| sn_iald dX9_offOf_62 rfl <| sq_callS mt_130 hcs dX9_offOf_63 w_1168 w_1169 w_63 w_1170 hy_130 hm_130 <| sn_iadd dX9_offOf_66 <| sn_ret dX9_offOf_67 ab_ri_int
theorem sX9_offOf {G : ab_G} {xs : List Int32} {d : Nat} {cal : ab_F} (hcs : ab_CS G (ab_Z G xs) ab_Mf cal d) : ab_BS G (ab_Z G xs) (d + 1) (ab_mY mX9_offOf pX9_offOf) pX9_offOf (bX9_offOf cal) := ⟨sX9_offOf_0 hcs, trivial⟩
theorem dgX9_off_0 : decode cX9_off 0 = .ok (.aload_n 0, 1) ∧ decode cX9_off 1 = .ok (.iload_n 1, 1) ∧ decode cX9_off 2 = .ok (.invokevirtual 100, 3) ∧ decode cX9_off 5 = .ok (.ifCond .eq 29, 3) ∧ decode cX9_off 8 = .ok (.iload_n 2, 1) ∧ decode cX9_off 9 = .ok (.invokestatic 129, 3) ∧ decode cX9_off 12 = .ok (.ifCond .eq 22, 3) ∧ decode cX9_off 15 = .ok (.iload_n 3, 1) ∧ decode cX9_off 16 = .ok (.iconst 0, 1) ∧ decode cX9_off 17 = .ok (.iconst 1, 1) ∧ decode cX9_off 18 = .ok (.invokestatic 86, 3) ∧ decode cX9_off 21 = .ok (.ifCond .eq 13, 3) ∧ decode cX9_off 24 = .ok (.aload_n 0, 1) ∧ decode cX9_off 25 = .ok (.iload_n 1, 1) ∧ decode cX9_off 26 = .ok (.iload_n 2, 1) ∧ decode cX9_off 27 = .ok (.iload_n 3, 1) := by decide +kernel
theorem dX9_off_0 : decode cX9_off 0 = .ok (.aload_n 0, 1) := dgX9_off_0.1
theorem dX9_off_1 : decode cX9_off 1 = .ok (.iload_n 1, 1) := dgX9_off_0.2.1
theorem dX9_off_2 : decode cX9_off 2 = .ok (.invokevirtual 100, 3) := dgX9_off_0.2.2.1
theorem dX9_off_5 : decode cX9_off 5 = .ok (.ifCond .eq 29, 3) := dgX9_off_0.2.2.2.1
theorem dX9_off_8 : decode cX9_off 8 = .ok (.iload_n 2, 1) := dgX9_off_0.2.2.2.2.1
theorem dX9_off_9 : decode cX9_off 9 = .ok (.invokestatic 129, 3) := dgX9_off_0.2.2.2.2.2.1
theorem dX9_off_12 : decode cX9_off 12 = .ok (.ifCond .eq 22, 3) := dgX9_off_0.2.2.2.2.2.2.1
theorem dX9_off_15 : decode cX9_off 15 = .ok (.iload_n 3, 1) := dgX9_off_0.2.2.2.2.2.2.2.1
theorem dX9_off_16 : decode cX9_off 16 = .ok (.iconst 0, 1) := dgX9_off_0.2.2.2.2.2.2.2.2.1
theorem dX9_off_17 : decode cX9_off 17 = .ok (.iconst 1, 1) := dgX9_off_0.2.2.2.2.2.2.2.2.2.1
theorem dX9_off_18 : decode cX9_off 18 = .ok (.invokestatic 86, 3) := dgX9_off_0.2.2.2.2.2.2.2.2.2.2.1
theorem dX9_off_21 : decode cX9_off 21 = .ok (.ifCond .eq 13, 3) := dgX9_off_0.2.2.2.2.2.2.2.2.2.2.2.1
theorem dX9_off_24 : decode cX9_off 24 = .ok (.aload_n 0, 1) := dgX9_off_0.2.2.2.2.2.2.2.2.2.2.2.2.1
theorem dX9_off_25 : decode cX9_off 25 = .ok (.iload_n 1, 1) := dgX9_off_0.2.2.2.2.2.2.2.2.2.2.2.2.2.1
theorem dX9_off_26 : decode cX9_off 26 = .ok (.iload_n 2, 1) := dgX9_off_0.2.2.2.2.2.2.2.2.2.2.2.2.2.2.1
theorem dX9_off_27 : decode cX9_off 27 = .ok (.iload_n 3, 1) := dgX9_off_0.2.2.2.2.2.2.2.2.2.2.2.2.2.2.2
theorem dgX9_off_1 : decode cX9_off 28 = .ok (.invokevirtual 132, 3) ∧ decode cX9_off 31 = .ok (.goto 5, 3) ∧ decode cX9_off 34 = .ok (.ldc 90, 2) ∧ decode cX9_off 36 = .ok (.ireturn, 1) := by decide +kernel
theorem dX9_off_28 : decode cX9_off 28 = .ok (.invokevirtual 132, 3) := dgX9_off_1.1
theorem dX9_off_31 : decode cX9_off 31 = .ok (.goto 5, 3) := dgX9_off_1.2.1
theorem dX9_off_34 : decode cX9_off 34 = .ok (.ldc 90, 2) := dgX9_off_1.2.2.1
theorem dX9_off_36 : decode cX9_off 36 = .ok (.ireturn, 1) := dgX9_off_1.2.2.2
abbrev pX9_off : List Nat := [0, 34, 36]
def bX9_off_0 (cal : ab_F) : ab_K := o_aload 0 <| o_iload 1 <| o_callV cal 133 1 8 <| o_if (fun x => decide (x = 0)) 1 <| o_iload 2 <| o_callS cal 134 1 <| o_if (fun x => decide (x = 0)) 1 <| o_iload 3 <| o_push (.int 0) <| o_push (.int 1) <| o_callS cal 128 3 <| o_if (fun x => decide (x = 0)) 1 <| o_aload 0 <| o_iload 1 <| o_iload 2 <| o_iload 3 <| o_callV cal 144 3 8 <| o_goto 2
def bX9_off_1 (cal : ab_F) : ab_K := o_push (.int (-1000000001)) <| o_goto 2
def bX9_off_2 (cal : ab_F) : ab_K := o_ret (some .int)
def bX9_off (cal : ab_F) : List ab_K := [bX9_off_0 cal, bX9_off_1 cal, bX9_off_2 cal]
set_option maxRecDepth 100000 in
theorem sX9_off_0 {G : ab_G} {xs : List Int32} {d : Nat} {cal : ab_F} (hcs : ab_CS G (ab_Z G xs) ab_Mf cal d) : ab_Sd G (ab_Z G xs) (d + 1) (ab_mY mX9_off pX9_off) 0 (bX9_off_0 cal) :=
  sn_aload_n dX9_off_0 rfl <| sn_iload_n dX9_off_1 rfl <| sq_callV mt_133 hcs dX9_off_2 rfl w_1119 w_1121 w_17 w_63 w_1122 hy_133 hm_133 <| sn_if_eq (tg := 34) dX9_off_5 rfl rfl <| sn_iload_n dX9_off_8 rfl <| sq_callS mt_134 hcs dX9_off_9 w_1139 w_1140 w_63 w_1141 hy_134 hm_134 <| sn_if_eq (tg := 34) dX9_off_12 rfl rfl <| sn_iload_n dX9_off_15 rfl <| sn_iconst dX9_off_16 rfl <| sn_iconst dX9_off_17 rfl <| sq_callS mt_128 hcs dX9_off_18 w_1106 w_1107 w_63 w_1108 hy_128 hm_128 <| sn_if_eq (tg := 34) dX9_off_21 rfl rfl <| sn_aload_n dX9_off_24 rfl <| sn_iload_n dX9_off_25 rfl <| sn_iload_n dX9_off_26 rfl <| sn_iload_n dX9_off_27 rfl <| sq_callV mt_144 hcs dX9_off_28 rfl w_1142 w_1144 w_21 w_63 w_1145 hy_144 hm_144 <| sn_goto (tg := 36) dX9_off_31 rfl rfl
set_option maxRecDepth 100000 in
theorem sX9_off_1 {G : ab_G} {xs : List Int32} {d : Nat} {cal : ab_F} (hcs : ab_CS G (ab_Z G xs) ab_Mf cal d) : ab_Sd G (ab_Z G xs) (d + 1) (ab_mY mX9_off pX9_off) 34 (bX9_off_1 cal) :=
  sn_ldc dX9_off_34 w_1109 <| sn_next rfl
set_option maxRecDepth 100000 in
theorem sX9_off_2 {G : ab_G} {xs : List Int32} {d : Nat} {cal : ab_F} (hcs : ab_CS G (ab_Z G xs) ab_Mf cal d) : ab_Sd G (ab_Z G xs) (d + 1) (ab_mY mX9_off pX9_off) 36 (bX9_off_2 cal) :=
  sn_ret dX9_off_36 ab_ri_int
theorem sX9_off {G : ab_G} {xs : List Int32} {d : Nat} {cal : ab_F} (hcs : ab_CS G (ab_Z G xs) ab_Mf cal d) : ab_BS G (ab_Z G xs) (d + 1) (ab_mY mX9_off pX9_off) pX9_off (bX9_off cal) := ⟨sX9_off_0 hcs, sX9_off_1 hcs, sX9_off_2 hcs, trivial⟩
theorem dgX9_isUnder_0 : decode cX9_isUnder 0 = .ok (.iload_n 1, 1) ∧ decode cX9_isUnder 1 = .ok (.ifCond .eq 28, 3) ∧ decode cX9_isUnder 4 = .ok (.iload_n 0, 1) ∧ decode cX9_isUnder 5 = .ok (.iload_n 1, 1) ∧ decode cX9_isUnder 6 = .ok (.if_icmp .eq 23, 3) ∧ decode cX9_isUnder 9 = .ok (.iload_n 1, 1) ∧ decode cX9_isUnder 10 = .ok (.iconst 1, 1) ∧ decode cX9_isUnder 11 = .ok (.if_icmp .ne 8, 3) ∧ decode cX9_isUnder 14 = .ok (.iload_n 0, 1) ∧ decode cX9_isUnder 15 = .ok (.iconst 3, 1) ∧ decode cX9_isUnder 16 = .ok (.if_icmp .eq 13, 3) ∧ decode cX9_isUnder 19 = .ok (.iload_n 1, 1) ∧ decode cX9_isUnder 20 = .ok (.iconst 2, 1) ∧ decode cX9_isUnder 21 = .ok (.if_icmp .ne 12, 3) ∧ decode cX9_isUnder 24 = .ok (.iload_n 0, 1) ∧ decode cX9_isUnder 25 = .ok (.iconst 4, 1) := by decide +kernel
theorem dX9_isUnder_0 : decode cX9_isUnder 0 = .ok (.iload_n 1, 1) := dgX9_isUnder_0.1
theorem dX9_isUnder_1 : decode cX9_isUnder 1 = .ok (.ifCond .eq 28, 3) := dgX9_isUnder_0.2.1
theorem dX9_isUnder_4 : decode cX9_isUnder 4 = .ok (.iload_n 0, 1) := dgX9_isUnder_0.2.2.1
theorem dX9_isUnder_5 : decode cX9_isUnder 5 = .ok (.iload_n 1, 1) := dgX9_isUnder_0.2.2.2.1
theorem dX9_isUnder_6 : decode cX9_isUnder 6 = .ok (.if_icmp .eq 23, 3) := dgX9_isUnder_0.2.2.2.2.1
theorem dX9_isUnder_9 : decode cX9_isUnder 9 = .ok (.iload_n 1, 1) := dgX9_isUnder_0.2.2.2.2.2.1
theorem dX9_isUnder_10 : decode cX9_isUnder 10 = .ok (.iconst 1, 1) := dgX9_isUnder_0.2.2.2.2.2.2.1
theorem dX9_isUnder_11 : decode cX9_isUnder 11 = .ok (.if_icmp .ne 8, 3) := dgX9_isUnder_0.2.2.2.2.2.2.2.1
theorem dX9_isUnder_14 : decode cX9_isUnder 14 = .ok (.iload_n 0, 1) := dgX9_isUnder_0.2.2.2.2.2.2.2.2.1
theorem dX9_isUnder_15 : decode cX9_isUnder 15 = .ok (.iconst 3, 1) := dgX9_isUnder_0.2.2.2.2.2.2.2.2.2.1
theorem dX9_isUnder_16 : decode cX9_isUnder 16 = .ok (.if_icmp .eq 13, 3) := dgX9_isUnder_0.2.2.2.2.2.2.2.2.2.2.1
theorem dX9_isUnder_19 : decode cX9_isUnder 19 = .ok (.iload_n 1, 1) := dgX9_isUnder_0.2.2.2.2.2.2.2.2.2.2.2.1
theorem dX9_isUnder_20 : decode cX9_isUnder 20 = .ok (.iconst 2, 1) := dgX9_isUnder_0.2.2.2.2.2.2.2.2.2.2.2.2.1
theorem dX9_isUnder_21 : decode cX9_isUnder 21 = .ok (.if_icmp .ne 12, 3) := dgX9_isUnder_0.2.2.2.2.2.2.2.2.2.2.2.2.2.1
theorem dX9_isUnder_24 : decode cX9_isUnder 24 = .ok (.iload_n 0, 1) := dgX9_isUnder_0.2.2.2.2.2.2.2.2.2.2.2.2.2.2.1
theorem dX9_isUnder_25 : decode cX9_isUnder 25 = .ok (.iconst 4, 1) := dgX9_isUnder_0.2.2.2.2.2.2.2.2.2.2.2.2.2.2.2
theorem dgX9_isUnder_1 : decode cX9_isUnder 26 = .ok (.if_icmp .ne 7, 3) ∧ decode cX9_isUnder 29 = .ok (.iconst 1, 1) ∧ decode cX9_isUnder 30 = .ok (.goto 4, 3) ∧ decode cX9_isUnder 33 = .ok (.iconst 0, 1) ∧ decode cX9_isUnder 34 = .ok (.ireturn, 1) := by decide +kernel
theorem dX9_isUnder_26 : decode cX9_isUnder 26 = .ok (.if_icmp .ne 7, 3) := dgX9_isUnder_1.1
theorem dX9_isUnder_29 : decode cX9_isUnder 29 = .ok (.iconst 1, 1) := dgX9_isUnder_1.2.1
theorem dX9_isUnder_30 : decode cX9_isUnder 30 = .ok (.goto 4, 3) := dgX9_isUnder_1.2.2.1
theorem dX9_isUnder_33 : decode cX9_isUnder 33 = .ok (.iconst 0, 1) := dgX9_isUnder_1.2.2.2.1
theorem dX9_isUnder_34 : decode cX9_isUnder 34 = .ok (.ireturn, 1) := dgX9_isUnder_1.2.2.2.2
abbrev pX9_isUnder : List Nat := [0, 19, 29, 33, 34]
def bX9_isUnder_0 (cal : ab_F) : ab_K := o_iload 1 <| o_if (fun x => decide (x = 0)) 2 <| o_iload 0 <| o_iload 1 <| o_cmp (fun x y => decide (x = y)) 2 <| o_iload 1 <| o_push (.int 1) <| o_cmp (fun x y => decide (¬ x = y)) 1 <| o_iload 0 <| o_push (.int 3) <| o_cmp (fun x y => decide (x = y)) 2 <| o_goto 1
def bX9_isUnder_1 (cal : ab_F) : ab_K := o_iload 1 <| o_push (.int 2) <| o_cmp (fun x y => decide (¬ x = y)) 3 <| o_iload 0 <| o_push (.int 4) <| o_cmp (fun x y => decide (¬ x = y)) 3 <| o_goto 2
def bX9_isUnder_2 (cal : ab_F) : ab_K := o_push (.int 1) <| o_goto 4
def bX9_isUnder_3 (cal : ab_F) : ab_K := o_push (.int 0) <| o_goto 4
def bX9_isUnder_4 (cal : ab_F) : ab_K := o_ret (some .boolean)
def bX9_isUnder (cal : ab_F) : List ab_K := [bX9_isUnder_0 cal, bX9_isUnder_1 cal, bX9_isUnder_2 cal, bX9_isUnder_3 cal, bX9_isUnder_4 cal]
set_option maxRecDepth 100000 in
theorem sX9_isUnder_0 {G : ab_G} {xs : List Int32} {d : Nat} {cal : ab_F} (hcs : ab_CS G (ab_Z G xs) ab_Mf cal d) : ab_Sd G (ab_Z G xs) (d + 1) (ab_mY mX9_isUnder pX9_isUnder) 0 (bX9_isUnder_0 cal) :=
  sn_iload_n dX9_isUnder_0 rfl <| sn_if_eq (tg := 29) dX9_isUnder_1 rfl rfl <| sn_iload_n dX9_isUnder_4 rfl <| sn_iload_n dX9_isUnder_5 rfl <| sn_cmp_eq (tg := 29) dX9_isUnder_6 rfl rfl <| sn_iload_n dX9_isUnder_9 rfl <| sn_iconst dX9_isUnder_10 rfl <| sn_cmp_ne (tg := 19) dX9_isUnder_11 rfl rfl <| sn_iload_n dX9_isUnder_14 rfl <| sn_iconst dX9_isUnder_15 rfl <| sn_cmp_eq (tg := 29) dX9_isUnder_16 rfl rfl <| sn_next rfl
set_option maxRecDepth 100000 in
theorem sX9_isUnder_1 {G : ab_G} {xs : List Int32} {d : Nat} {cal : ab_F} (hcs : ab_CS G (ab_Z G xs) ab_Mf cal d) : ab_Sd G (ab_Z G xs) (d + 1) (ab_mY mX9_isUnder pX9_isUnder) 19 (bX9_isUnder_1 cal) :=
  sn_iload_n dX9_isUnder_19 rfl <| sn_iconst dX9_isUnder_20 rfl <| sn_cmp_ne (tg := 33) dX9_isUnder_21 rfl rfl <| sn_iload_n dX9_isUnder_24 rfl <| sn_iconst dX9_isUnder_25 rfl <| sn_cmp_ne (tg := 33) dX9_isUnder_26 rfl rfl <| sn_next rfl
set_option maxRecDepth 100000 in
theorem sX9_isUnder_2 {G : ab_G} {xs : List Int32} {d : Nat} {cal : ab_F} (hcs : ab_CS G (ab_Z G xs) ab_Mf cal d) : ab_Sd G (ab_Z G xs) (d + 1) (ab_mY mX9_isUnder pX9_isUnder) 29 (bX9_isUnder_2 cal) :=
  sn_iconst dX9_isUnder_29 rfl <| sn_goto (tg := 34) dX9_isUnder_30 rfl rfl
set_option maxRecDepth 100000 in
theorem sX9_isUnder_3 {G : ab_G} {xs : List Int32} {d : Nat} {cal : ab_F} (hcs : ab_CS G (ab_Z G xs) ab_Mf cal d) : ab_Sd G (ab_Z G xs) (d + 1) (ab_mY mX9_isUnder pX9_isUnder) 33 (bX9_isUnder_3 cal) :=
  sn_iconst dX9_isUnder_33 rfl <| sn_next rfl
set_option maxRecDepth 100000 in
theorem sX9_isUnder_4 {G : ab_G} {xs : List Int32} {d : Nat} {cal : ab_F} (hcs : ab_CS G (ab_Z G xs) ab_Mf cal d) : ab_Sd G (ab_Z G xs) (d + 1) (ab_mY mX9_isUnder pX9_isUnder) 34 (bX9_isUnder_4 cal) :=
  sn_ret dX9_isUnder_34 ab_ri_bool
theorem sX9_isUnder {G : ab_G} {xs : List Int32} {d : Nat} {cal : ab_F} (hcs : ab_CS G (ab_Z G xs) ab_Mf cal d) : ab_BS G (ab_Z G xs) (d + 1) (ab_mY mX9_isUnder pX9_isUnder) pX9_isUnder (bX9_isUnder cal) := ⟨sX9_isUnder_0 hcs, sX9_isUnder_1 hcs, sX9_isUnder_2 hcs, sX9_isUnder_3 hcs, sX9_isUnder_4 hcs, trivial⟩
theorem dgX9_as_0 : decode cX9_as 0 = .ok (.aload_n 0, 1) ∧ decode cX9_as 1 = .ok (.iload_n 1, 1) ∧ decode cX9_as 2 = .ok (.invokevirtual 100, 3) ∧ decode cX9_as 5 = .ok (.ifCond .eq 12, 3) ∧ decode cX9_as 8 = .ok (.iload_n 2, 1) ∧ decode cX9_as 9 = .ok (.iconst 0, 1) ∧ decode cX9_as 10 = .ok (.iconst 5, 1) ∧ decode cX9_as 11 = .ok (.invokestatic 86, 3) ∧ decode cX9_as 14 = .ok (.ifCond .ne 6, 3) ∧ decode cX9_as 17 = .ok (.ldc 90, 2) ∧ decode cX9_as 19 = .ok (.ireturn, 1) ∧ decode cX9_as 20 = .ok (.aload_n 0, 1) ∧ decode cX9_as 21 = .ok (.iload_n 1, 1) ∧ decode cX9_as 22 = .ok (.iconst 0, 1) ∧ decode cX9_as 23 = .ok (.invokevirtual 96, 3) ∧ decode cX9_as 26 = .ok (.iload_n 2, 1) := by decide +kernel
theorem dX9_as_0 : decode cX9_as 0 = .ok (.aload_n 0, 1) := dgX9_as_0.1
theorem dX9_as_1 : decode cX9_as 1 = .ok (.iload_n 1, 1) := dgX9_as_0.2.1
theorem dX9_as_2 : decode cX9_as 2 = .ok (.invokevirtual 100, 3) := dgX9_as_0.2.2.1
theorem dX9_as_5 : decode cX9_as 5 = .ok (.ifCond .eq 12, 3) := dgX9_as_0.2.2.2.1
theorem dX9_as_8 : decode cX9_as 8 = .ok (.iload_n 2, 1) := dgX9_as_0.2.2.2.2.1
theorem dX9_as_9 : decode cX9_as 9 = .ok (.iconst 0, 1) := dgX9_as_0.2.2.2.2.2.1
theorem dX9_as_10 : decode cX9_as 10 = .ok (.iconst 5, 1) := dgX9_as_0.2.2.2.2.2.2.1
theorem dX9_as_11 : decode cX9_as 11 = .ok (.invokestatic 86, 3) := dgX9_as_0.2.2.2.2.2.2.2.1
theorem dX9_as_14 : decode cX9_as 14 = .ok (.ifCond .ne 6, 3) := dgX9_as_0.2.2.2.2.2.2.2.2.1
theorem dX9_as_17 : decode cX9_as 17 = .ok (.ldc 90, 2) := dgX9_as_0.2.2.2.2.2.2.2.2.2.1
theorem dX9_as_19 : decode cX9_as 19 = .ok (.ireturn, 1) := dgX9_as_0.2.2.2.2.2.2.2.2.2.2.1
theorem dX9_as_20 : decode cX9_as 20 = .ok (.aload_n 0, 1) := dgX9_as_0.2.2.2.2.2.2.2.2.2.2.2.1
theorem dX9_as_21 : decode cX9_as 21 = .ok (.iload_n 1, 1) := dgX9_as_0.2.2.2.2.2.2.2.2.2.2.2.2.1
theorem dX9_as_22 : decode cX9_as 22 = .ok (.iconst 0, 1) := dgX9_as_0.2.2.2.2.2.2.2.2.2.2.2.2.2.1
theorem dX9_as_23 : decode cX9_as 23 = .ok (.invokevirtual 96, 3) := dgX9_as_0.2.2.2.2.2.2.2.2.2.2.2.2.2.2.1
theorem dX9_as_26 : decode cX9_as 26 = .ok (.iload_n 2, 1) := dgX9_as_0.2.2.2.2.2.2.2.2.2.2.2.2.2.2.2
theorem dgX9_as_1 : decode cX9_as 27 = .ok (.invokestatic 135, 3) ∧ decode cX9_as 30 = .ok (.ifCond .eq 12, 3) ∧ decode cX9_as 33 = .ok (.aload_n 0, 1) ∧ decode cX9_as 34 = .ok (.iload_n 1, 1) ∧ decode cX9_as 35 = .ok (.iconst 1, 1) ∧ decode cX9_as 36 = .ok (.invokevirtual 96, 3) ∧ decode cX9_as 39 = .ok (.goto 5, 3) ∧ decode cX9_as 42 = .ok (.ldc 139, 2) ∧ decode cX9_as 44 = .ok (.ireturn, 1) := by decide +kernel
theorem dX9_as_27 : decode cX9_as 27 = .ok (.invokestatic 135, 3) := dgX9_as_1.1
theorem dX9_as_30 : decode cX9_as 30 = .ok (.ifCond .eq 12, 3) := dgX9_as_1.2.1
theorem dX9_as_33 : decode cX9_as 33 = .ok (.aload_n 0, 1) := dgX9_as_1.2.2.1
theorem dX9_as_34 : decode cX9_as 34 = .ok (.iload_n 1, 1) := dgX9_as_1.2.2.2.1
theorem dX9_as_35 : decode cX9_as 35 = .ok (.iconst 1, 1) := dgX9_as_1.2.2.2.2.1
theorem dX9_as_36 : decode cX9_as 36 = .ok (.invokevirtual 96, 3) := dgX9_as_1.2.2.2.2.2.1
theorem dX9_as_39 : decode cX9_as 39 = .ok (.goto 5, 3) := dgX9_as_1.2.2.2.2.2.2.1
theorem dX9_as_42 : decode cX9_as 42 = .ok (.ldc 139, 2) := dgX9_as_1.2.2.2.2.2.2.2.1
theorem dX9_as_44 : decode cX9_as 44 = .ok (.ireturn, 1) := dgX9_as_1.2.2.2.2.2.2.2.2
abbrev pX9_as : List Nat := [0, 17, 20, 42, 44]
def bX9_as_0 (cal : ab_F) : ab_K := o_aload 0 <| o_iload 1 <| o_callV cal 133 1 8 <| o_if (fun x => decide (x = 0)) 1 <| o_iload 2 <| o_push (.int 0) <| o_push (.int 5) <| o_callS cal 128 3 <| o_if (fun x => decide (¬ x = 0)) 2 <| o_goto 1
def bX9_as_1 (cal : ab_F) : ab_K := o_push (.int (-1000000001)) <| o_ret (some .int)
def bX9_as_2 (cal : ab_F) : ab_K := o_aload 0 <| o_iload 1 <| o_push (.int 0) <| o_callV cal 135 2 8 <| o_iload 2 <| o_callS cal 146 2 <| o_if (fun x => decide (x = 0)) 3 <| o_aload 0 <| o_iload 1 <| o_push (.int 1) <| o_callV cal 135 2 8 <| o_goto 4
def bX9_as_3 (cal : ab_F) : ab_K := o_push (.int (-1000000012)) <| o_goto 4
def bX9_as_4 (cal : ab_F) : ab_K := o_ret (some .int)
def bX9_as (cal : ab_F) : List ab_K := [bX9_as_0 cal, bX9_as_1 cal, bX9_as_2 cal, bX9_as_3 cal, bX9_as_4 cal]
set_option maxRecDepth 100000 in
theorem sX9_as_0 {G : ab_G} {xs : List Int32} {d : Nat} {cal : ab_F} (hcs : ab_CS G (ab_Z G xs) ab_Mf cal d) : ab_Sd G (ab_Z G xs) (d + 1) (ab_mY mX9_as pX9_as) 0 (bX9_as_0 cal) :=
  sn_aload_n dX9_as_0 rfl <| sn_iload_n dX9_as_1 rfl <| sq_callV mt_133 hcs dX9_as_2 rfl w_1119 w_1121 w_17 w_63 w_1122 hy_133 hm_133 <| sn_if_eq (tg := 17) dX9_as_5 rfl rfl <| sn_iload_n dX9_as_8 rfl <| sn_iconst dX9_as_9 rfl <| sn_iconst dX9_as_10 rfl <| sq_callS mt_128 hcs dX9_as_11 w_1106 w_1107 w_63 w_1108 hy_128 hm_128 <| sn_if_ne (tg := 20) dX9_as_14 rfl rfl <| sn_next rfl
set_option maxRecDepth 100000 in
theorem sX9_as_1 {G : ab_G} {xs : List Int32} {d : Nat} {cal : ab_F} (hcs : ab_CS G (ab_Z G xs) ab_Mf cal d) : ab_Sd G (ab_Z G xs) (d + 1) (ab_mY mX9_as pX9_as) 17 (bX9_as_1 cal) :=
  sn_ldc dX9_as_17 w_1109 <| sn_ret dX9_as_19 ab_ri_int
set_option maxRecDepth 100000 in
theorem sX9_as_2 {G : ab_G} {xs : List Int32} {d : Nat} {cal : ab_F} (hcs : ab_CS G (ab_Z G xs) ab_Mf cal d) : ab_Sd G (ab_Z G xs) (d + 1) (ab_mY mX9_as pX9_as) 20 (bX9_as_2 cal) :=
  sn_aload_n dX9_as_20 rfl <| sn_iload_n dX9_as_21 rfl <| sn_iconst dX9_as_22 rfl <| sq_callV mt_135 hcs dX9_as_23 rfl w_1123 w_1125 w_18 w_63 w_1126 hy_135 hm_135 <| sn_iload_n dX9_as_26 rfl <| sq_callS mt_146 hcs dX9_as_27 w_1175 w_1176 w_63 w_1177 hy_146 hm_146 <| sn_if_eq (tg := 42) dX9_as_30 rfl rfl <| sn_aload_n dX9_as_33 rfl <| sn_iload_n dX9_as_34 rfl <| sn_iconst dX9_as_35 rfl <| sq_callV mt_135 hcs dX9_as_36 rfl w_1123 w_1125 w_18 w_63 w_1126 hy_135 hm_135 <| sn_goto (tg := 44) dX9_as_39 rfl rfl
set_option maxRecDepth 100000 in
theorem sX9_as_3 {G : ab_G} {xs : List Int32} {d : Nat} {cal : ab_F} (hcs : ab_CS G (ab_Z G xs) ab_Mf cal d) : ab_Sd G (ab_Z G xs) (d + 1) (ab_mY mX9_as pX9_as) 42 (bX9_as_3 cal) :=
  sn_ldc dX9_as_42 w_1178 <| sn_next rfl
set_option maxRecDepth 100000 in
theorem sX9_as_4 {G : ab_G} {xs : List Int32} {d : Nat} {cal : ab_F} (hcs : ab_CS G (ab_Z G xs) ab_Mf cal d) : ab_Sd G (ab_Z G xs) (d + 1) (ab_mY mX9_as pX9_as) 44 (bX9_as_4 cal) :=
  sn_ret dX9_as_44 ab_ri_int
theorem sX9_as {G : ab_G} {xs : List Int32} {d : Nat} {cal : ab_F} (hcs : ab_CS G (ab_Z G xs) ab_Mf cal d) : ab_BS G (ab_Z G xs) (d + 1) (ab_mY mX9_as pX9_as) pX9_as (bX9_as cal) := ⟨sX9_as_0 hcs, sX9_as_1 hcs, sX9_as_2 hcs, sX9_as_3 hcs, sX9_as_4 hcs, trivial⟩
theorem dgX9_turns_0 : decode cX9_turns 0 = .ok (.aload_n 0, 1) ∧ decode cX9_turns 1 = .ok (.iload_n 1, 1) ∧ decode cX9_turns 2 = .ok (.invokevirtual 100, 3) ∧ decode cX9_turns 5 = .ok (.ifCond .eq 26, 3) ∧ decode cX9_turns 8 = .ok (.iload_n 2, 1) ∧ decode cX9_turns 9 = .ok (.iconst 0, 1) ∧ decode cX9_turns 10 = .ok (.iconst 5, 1) ∧ decode cX9_turns 11 = .ok (.invokestatic 86, 3) ∧ decode cX9_turns 14 = .ok (.ifCond .eq 17, 3) ∧ decode cX9_turns 17 = .ok (.aload_n 0, 1) ∧ decode cX9_turns 18 = .ok (.bipush 29, 2) ∧ decode cX9_turns 20 = .ok (.iconst 5, 1) ∧ decode cX9_turns 21 = .ok (.iload_n 1, 1) ∧ decode cX9_turns 22 = .ok (.imul, 1) ∧ decode cX9_turns 23 = .ok (.iadd, 1) ∧ decode cX9_turns 24 = .ok (.iload_n 2, 1) := by decide +kernel
theorem dX9_turns_0 : decode cX9_turns 0 = .ok (.aload_n 0, 1) := dgX9_turns_0.1
theorem dX9_turns_1 : decode cX9_turns 1 = .ok (.iload_n 1, 1) := dgX9_turns_0.2.1
theorem dX9_turns_2 : decode cX9_turns 2 = .ok (.invokevirtual 100, 3) := dgX9_turns_0.2.2.1
theorem dX9_turns_5 : decode cX9_turns 5 = .ok (.ifCond .eq 26, 3) := dgX9_turns_0.2.2.2.1
theorem dX9_turns_8 : decode cX9_turns 8 = .ok (.iload_n 2, 1) := dgX9_turns_0.2.2.2.2.1
theorem dX9_turns_9 : decode cX9_turns 9 = .ok (.iconst 0, 1) := dgX9_turns_0.2.2.2.2.2.1
theorem dX9_turns_10 : decode cX9_turns 10 = .ok (.iconst 5, 1) := dgX9_turns_0.2.2.2.2.2.2.1
theorem dX9_turns_11 : decode cX9_turns 11 = .ok (.invokestatic 86, 3) := dgX9_turns_0.2.2.2.2.2.2.2.1
theorem dX9_turns_14 : decode cX9_turns 14 = .ok (.ifCond .eq 17, 3) := dgX9_turns_0.2.2.2.2.2.2.2.2.1
theorem dX9_turns_17 : decode cX9_turns 17 = .ok (.aload_n 0, 1) := dgX9_turns_0.2.2.2.2.2.2.2.2.2.1
theorem dX9_turns_18 : decode cX9_turns 18 = .ok (.bipush 29, 2) := dgX9_turns_0.2.2.2.2.2.2.2.2.2.2.1
theorem dX9_turns_20 : decode cX9_turns 20 = .ok (.iconst 5, 1) := dgX9_turns_0.2.2.2.2.2.2.2.2.2.2.2.1
theorem dX9_turns_21 : decode cX9_turns 21 = .ok (.iload_n 1, 1) := dgX9_turns_0.2.2.2.2.2.2.2.2.2.2.2.2.1
theorem dX9_turns_22 : decode cX9_turns 22 = .ok (.imul, 1) := dgX9_turns_0.2.2.2.2.2.2.2.2.2.2.2.2.2.1
theorem dX9_turns_23 : decode cX9_turns 23 = .ok (.iadd, 1) := dgX9_turns_0.2.2.2.2.2.2.2.2.2.2.2.2.2.2.1
theorem dX9_turns_24 : decode cX9_turns 24 = .ok (.iload_n 2, 1) := dgX9_turns_0.2.2.2.2.2.2.2.2.2.2.2.2.2.2.2
theorem dgX9_turns_1 : decode cX9_turns 25 = .ok (.invokevirtual 140, 3) ∧ decode cX9_turns 28 = .ok (.goto 5, 3) ∧ decode cX9_turns 31 = .ok (.ldc 90, 2) ∧ decode cX9_turns 33 = .ok (.ireturn, 1) := by decide +kernel
theorem dX9_turns_25 : decode cX9_turns 25 = .ok (.invokevirtual 140, 3) := dgX9_turns_1.1
theorem dX9_turns_28 : decode cX9_turns 28 = .ok (.goto 5, 3) := dgX9_turns_1.2.1
theorem dX9_turns_31 : decode cX9_turns 31 = .ok (.ldc 90, 2) := dgX9_turns_1.2.2.1
theorem dX9_turns_33 : decode cX9_turns 33 = .ok (.ireturn, 1) := dgX9_turns_1.2.2.2
abbrev pX9_turns : List Nat := [0, 31, 33]
def bX9_turns_0 (cal : ab_F) : ab_K := o_aload 0 <| o_iload 1 <| o_callV cal 133 1 8 <| o_if (fun x => decide (x = 0)) 1 <| o_iload 2 <| o_push (.int 0) <| o_push (.int 5) <| o_callS cal 128 3 <| o_if (fun x => decide (x = 0)) 1 <| o_aload 0 <| o_push (.int 29) <| o_push (.int 5) <| o_iload 1 <| o_bin (fun x y => x * y) <| o_bin (fun x y => x + y) <| o_iload 2 <| o_callV cal 136 2 8 <| o_goto 2
def bX9_turns_1 (cal : ab_F) : ab_K := o_push (.int (-1000000001)) <| o_goto 2
def bX9_turns_2 (cal : ab_F) : ab_K := o_ret (some .int)
def bX9_turns (cal : ab_F) : List ab_K := [bX9_turns_0 cal, bX9_turns_1 cal, bX9_turns_2 cal]
set_option maxRecDepth 100000 in
theorem sX9_turns_0 {G : ab_G} {xs : List Int32} {d : Nat} {cal : ab_F} (hcs : ab_CS G (ab_Z G xs) ab_Mf cal d) : ab_Sd G (ab_Z G xs) (d + 1) (ab_mY mX9_turns pX9_turns) 0 (bX9_turns_0 cal) :=
  sn_aload_n dX9_turns_0 rfl <| sn_iload_n dX9_turns_1 rfl <| sq_callV mt_133 hcs dX9_turns_2 rfl w_1119 w_1121 w_17 w_63 w_1122 hy_133 hm_133 <| sn_if_eq (tg := 31) dX9_turns_5 rfl rfl <| sn_iload_n dX9_turns_8 rfl <| sn_iconst dX9_turns_9 rfl <| sn_iconst dX9_turns_10 rfl <| sq_callS mt_128 hcs dX9_turns_11 w_1106 w_1107 w_63 w_1108 hy_128 hm_128 <| sn_if_eq (tg := 31) dX9_turns_14 rfl rfl <| sn_aload_n dX9_turns_17 rfl <| sn_bipush dX9_turns_18 rfl <| sn_iconst dX9_turns_20 rfl <| sn_iload_n dX9_turns_21 rfl <| sn_imul dX9_turns_22 <| sn_iadd dX9_turns_23 <| sn_iload_n dX9_turns_24 rfl <| sq_callV mt_136 hcs dX9_turns_25 rfl w_1183 w_1185 w_26 w_63 w_1186 hy_136 hm_136 <| sn_goto (tg := 33) dX9_turns_28 rfl rfl
set_option maxRecDepth 100000 in
theorem sX9_turns_1 {G : ab_G} {xs : List Int32} {d : Nat} {cal : ab_F} (hcs : ab_CS G (ab_Z G xs) ab_Mf cal d) : ab_Sd G (ab_Z G xs) (d + 1) (ab_mY mX9_turns pX9_turns) 31 (bX9_turns_1 cal) :=
  sn_ldc dX9_turns_31 w_1109 <| sn_next rfl
set_option maxRecDepth 100000 in
theorem sX9_turns_2 {G : ab_G} {xs : List Int32} {d : Nat} {cal : ab_F} (hcs : ab_CS G (ab_Z G xs) ab_Mf cal d) : ab_Sd G (ab_Z G xs) (d + 1) (ab_mY mX9_turns pX9_turns) 33 (bX9_turns_2 cal) :=
  sn_ret dX9_turns_33 ab_ri_int
theorem sX9_turns {G : ab_G} {xs : List Int32} {d : Nat} {cal : ab_F} (hcs : ab_CS G (ab_Z G xs) ab_Mf cal d) : ab_BS G (ab_Z G xs) (d + 1) (ab_mY mX9_turns pX9_turns) pX9_turns (bX9_turns cal) := ⟨sX9_turns_0 hcs, sX9_turns_1 hcs, sX9_turns_2 hcs, trivial⟩
theorem dgX9_holder_0 : decode cX9_holder 0 = .ok (.iconst (-1), 1) ∧ decode cX9_holder 1 = .ok (.istore_n 2, 1) ∧ decode cX9_holder 2 = .ok (.iconst 0, 1) ∧ decode cX9_holder 3 = .ok (.istore_n 3, 1) ∧ decode cX9_holder 4 = .ok (.iload_n 3, 1) ∧ decode cX9_holder 5 = .ok (.aload_n 0, 1) ∧ decode cX9_holder 6 = .ok (.getfield 9, 3) ∧ decode cX9_holder 9 = .ok (.iconst 1, 1) ∧ decode cX9_holder 10 = .ok (.iaload, 1) ∧ decode cX9_holder 11 = .ok (.if_icmp .ge 25, 3) ∧ decode cX9_holder 14 = .ok (.aload_n 0, 1) ∧ decode cX9_holder 15 = .ok (.iload_n 3, 1) ∧ decode cX9_holder 16 = .ok (.iconst 3, 1) ∧ decode cX9_holder 17 = .ok (.invokevirtual 96, 3) ∧ decode cX9_holder 20 = .ok (.iload_n 1, 1) ∧ decode cX9_holder 21 = .ok (.if_icmp .ne 7, 3) := by decide +kernel
theorem dX9_holder_0 : decode cX9_holder 0 = .ok (.iconst (-1), 1) := dgX9_holder_0.1
theorem dX9_holder_1 : decode cX9_holder 1 = .ok (.istore_n 2, 1) := dgX9_holder_0.2.1
theorem dX9_holder_2 : decode cX9_holder 2 = .ok (.iconst 0, 1) := dgX9_holder_0.2.2.1
theorem dX9_holder_3 : decode cX9_holder 3 = .ok (.istore_n 3, 1) := dgX9_holder_0.2.2.2.1
theorem dX9_holder_4 : decode cX9_holder 4 = .ok (.iload_n 3, 1) := dgX9_holder_0.2.2.2.2.1
theorem dX9_holder_5 : decode cX9_holder 5 = .ok (.aload_n 0, 1) := dgX9_holder_0.2.2.2.2.2.1
theorem dX9_holder_6 : decode cX9_holder 6 = .ok (.getfield 9, 3) := dgX9_holder_0.2.2.2.2.2.2.1
theorem dX9_holder_9 : decode cX9_holder 9 = .ok (.iconst 1, 1) := dgX9_holder_0.2.2.2.2.2.2.2.1
theorem dX9_holder_10 : decode cX9_holder 10 = .ok (.iaload, 1) := dgX9_holder_0.2.2.2.2.2.2.2.2.1
theorem dX9_holder_11 : decode cX9_holder 11 = .ok (.if_icmp .ge 25, 3) := dgX9_holder_0.2.2.2.2.2.2.2.2.2.1
theorem dX9_holder_14 : decode cX9_holder 14 = .ok (.aload_n 0, 1) := dgX9_holder_0.2.2.2.2.2.2.2.2.2.2.1
theorem dX9_holder_15 : decode cX9_holder 15 = .ok (.iload_n 3, 1) := dgX9_holder_0.2.2.2.2.2.2.2.2.2.2.2.1
theorem dX9_holder_16 : decode cX9_holder 16 = .ok (.iconst 3, 1) := dgX9_holder_0.2.2.2.2.2.2.2.2.2.2.2.2.1
theorem dX9_holder_17 : decode cX9_holder 17 = .ok (.invokevirtual 96, 3) := dgX9_holder_0.2.2.2.2.2.2.2.2.2.2.2.2.2.1
theorem dX9_holder_20 : decode cX9_holder 20 = .ok (.iload_n 1, 1) := dgX9_holder_0.2.2.2.2.2.2.2.2.2.2.2.2.2.2.1
theorem dX9_holder_21 : decode cX9_holder 21 = .ok (.if_icmp .ne 7, 3) := dgX9_holder_0.2.2.2.2.2.2.2.2.2.2.2.2.2.2.2
theorem dgX9_holder_1 : decode cX9_holder 24 = .ok (.iload_n 3, 1) ∧ decode cX9_holder 25 = .ok (.goto 4, 3) ∧ decode cX9_holder 28 = .ok (.iload_n 2, 1) ∧ decode cX9_holder 29 = .ok (.istore_n 2, 1) ∧ decode cX9_holder 30 = .ok (.iinc 3 1, 3) ∧ decode cX9_holder 33 = .ok (.goto (-29), 3) ∧ decode cX9_holder 36 = .ok (.iload_n 2, 1) ∧ decode cX9_holder 37 = .ok (.ireturn, 1) := by decide +kernel
theorem dX9_holder_24 : decode cX9_holder 24 = .ok (.iload_n 3, 1) := dgX9_holder_1.1
theorem dX9_holder_25 : decode cX9_holder 25 = .ok (.goto 4, 3) := dgX9_holder_1.2.1
theorem dX9_holder_28 : decode cX9_holder 28 = .ok (.iload_n 2, 1) := dgX9_holder_1.2.2.1
theorem dX9_holder_29 : decode cX9_holder 29 = .ok (.istore_n 2, 1) := dgX9_holder_1.2.2.2.1
theorem dX9_holder_30 : decode cX9_holder 30 = .ok (.iinc 3 1, 3) := dgX9_holder_1.2.2.2.2.1
theorem dX9_holder_33 : decode cX9_holder 33 = .ok (.goto (-29), 3) := dgX9_holder_1.2.2.2.2.2.1
theorem dX9_holder_36 : decode cX9_holder 36 = .ok (.iload_n 2, 1) := dgX9_holder_1.2.2.2.2.2.2.1
theorem dX9_holder_37 : decode cX9_holder 37 = .ok (.ireturn, 1) := dgX9_holder_1.2.2.2.2.2.2.2
abbrev pX9_holder : List Nat := [0, 4, 28, 29, 36]
def bX9_holder_0 (cal : ab_F) : ab_K := o_push (.int (-1)) <| o_istore 2 <| o_push (.int 0) <| o_istore 3 <| o_goto 1
def bX9_holder_1 (cal : ab_F) : ab_K := o_iload 3 <| o_aload 0 <| o_getf 8 0 <| o_push (.int 1) <| o_iald 0 <| o_cmp (fun x y => decide (y ≤ x)) 4 <| o_aload 0 <| o_iload 3 <| o_push (.int 3) <| o_callV cal 135 2 8 <| o_iload 1 <| o_cmp (fun x y => decide (¬ x = y)) 2 <| o_iload 3 <| o_goto 3
def bX9_holder_2 (cal : ab_F) : ab_K := o_iload 2 <| o_goto 3
def bX9_holder_3 (cal : ab_F) : ab_K := o_istore 2 <| o_iinc 3 1 <| o_goto 1
def bX9_holder_4 (cal : ab_F) : ab_K := o_iload 2 <| o_ret (some .int)
def bX9_holder (cal : ab_F) : List ab_K := [bX9_holder_0 cal, bX9_holder_1 cal, bX9_holder_2 cal, bX9_holder_3 cal, bX9_holder_4 cal]
set_option maxRecDepth 100000 in
theorem sX9_holder_0 {G : ab_G} {xs : List Int32} {d : Nat} {cal : ab_F} (hcs : ab_CS G (ab_Z G xs) ab_Mf cal d) : ab_Sd G (ab_Z G xs) (d + 1) (ab_mY mX9_holder pX9_holder) 0 (bX9_holder_0 cal) :=
  sn_iconst dX9_holder_0 rfl <| sn_istore_n dX9_holder_1 rfl (by decide) <| sn_iconst dX9_holder_2 rfl <| sn_istore_n dX9_holder_3 rfl (by decide) <| sn_next rfl
set_option maxRecDepth 100000 in
theorem sX9_holder_1 {G : ab_G} {xs : List Int32} {d : Nat} {cal : ab_F} (hcs : ab_CS G (ab_Z G xs) ab_Mf cal d) : ab_Sd G (ab_Z G xs) (d + 1) (ab_mY mX9_holder pX9_holder) 4 (bX9_holder_1 cal) :=
  sn_iload_n dX9_holder_4 rfl <| sn_aload_n dX9_holder_5 rfl <| sn_getf dX9_holder_6 rfl hinX9 (by decide) w_991 <| sn_iconst dX9_holder_9 rfl <| sn_iald dX9_holder_10 rfl <| sn_cmp_ge (tg := 36) dX9_holder_11 rfl rfl <| sn_aload_n dX9_holder_14 rfl <| sn_iload_n dX9_holder_15 rfl <| sn_iconst dX9_holder_16 rfl <| sq_callV mt_135 hcs dX9_holder_17 rfl w_1123 w_1125 w_18 w_63 w_1126 hy_135 hm_135 <| sn_iload_n dX9_holder_20 rfl <| sn_cmp_ne (tg := 28) dX9_holder_21 rfl rfl <| sn_iload_n dX9_holder_24 rfl <| sn_goto (tg := 29) dX9_holder_25 rfl rfl
set_option maxRecDepth 100000 in
theorem sX9_holder_2 {G : ab_G} {xs : List Int32} {d : Nat} {cal : ab_F} (hcs : ab_CS G (ab_Z G xs) ab_Mf cal d) : ab_Sd G (ab_Z G xs) (d + 1) (ab_mY mX9_holder pX9_holder) 28 (bX9_holder_2 cal) :=
  sn_iload_n dX9_holder_28 rfl <| sn_next rfl
set_option maxRecDepth 100000 in
theorem sX9_holder_3 {G : ab_G} {xs : List Int32} {d : Nat} {cal : ab_F} (hcs : ab_CS G (ab_Z G xs) ab_Mf cal d) : ab_Sd G (ab_Z G xs) (d + 1) (ab_mY mX9_holder pX9_holder) 29 (bX9_holder_3 cal) :=
  sn_istore_n dX9_holder_29 rfl (by decide) <| sn_iinc dX9_holder_30 rfl (by decide) <| sn_goto (tg := 4) dX9_holder_33 rfl rfl
set_option maxRecDepth 100000 in
theorem sX9_holder_4 {G : ab_G} {xs : List Int32} {d : Nat} {cal : ab_F} (hcs : ab_CS G (ab_Z G xs) ab_Mf cal d) : ab_Sd G (ab_Z G xs) (d + 1) (ab_mY mX9_holder pX9_holder) 36 (bX9_holder_4 cal) :=
  sn_iload_n dX9_holder_36 rfl <| sn_ret dX9_holder_37 ab_ri_int
theorem sX9_holder {G : ab_G} {xs : List Int32} {d : Nat} {cal : ab_F} (hcs : ab_CS G (ab_Z G xs) ab_Mf cal d) : ab_BS G (ab_Z G xs) (d + 1) (ab_mY mX9_holder pX9_holder) pX9_holder (bX9_holder cal) := ⟨sX9_holder_0 hcs, sX9_holder_1 hcs, sX9_holder_2 hcs, sX9_holder_3 hcs, sX9_holder_4 hcs, trivial⟩
