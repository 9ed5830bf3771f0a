theorem dgX8_count_0 : decode cX8_count 0 = .ok (.iload_n 1, 1) ∧ decode cX8_count 1 = .ok (.tableswitch 116 0 7 #[47, 55, 63, 71, 87, 95, 100, 108], 47) ∧ decode cX8_count 48 = .ok (.aload_n 0, 1) ∧ decode cX8_count 49 = .ok (.getfield 10, 3) ∧ decode cX8_count 52 = .ok (.getfield 65, 3) ∧ decode cX8_count 55 = .ok (.ireturn, 1) ∧ decode cX8_count 56 = .ok (.aload_n 0, 1) ∧ decode cX8_count 57 = .ok (.getfield 10, 3) ∧ decode cX8_count 60 = .ok (.getfield 147, 3) ∧ decode cX8_count 63 = .ok (.ireturn, 1) ∧ decode cX8_count 64 = .ok (.aload_n 0, 1) ∧ decode cX8_count 65 = .ok (.getfield 10, 3) ∧ decode cX8_count 68 = .ok (.getfield 128, 3) ∧ decode cX8_count 71 = .ok (.ireturn, 1) ∧ decode cX8_count 72 = .ok (.aload_n 0, 1) ∧ decode cX8_count 73 = .ok (.getfield 10, 3) := by decide +kernel
theorem dX8_count_0 : decode cX8_count 0 = .ok (.iload_n 1, 1) := dgX8_count_0.1
theorem dX8_count_1 : decode cX8_count 1 = .ok (.tableswitch 116 0 7 #[47, 55, 63, 71, 87, 95, 100, 108], 47) := dgX8_count_0.2.1
theorem dX8_count_48 : decode cX8_count 48 = .ok (.aload_n 0, 1) := dgX8_count_0.2.2.1
theorem dX8_count_49 : decode cX8_count 49 = .ok (.getfield 10, 3) := dgX8_count_0.2.2.2.1
theorem dX8_count_52 : decode cX8_count 52 = .ok (.getfield 65, 3) := dgX8_count_0.2.2.2.2.1
theorem dX8_count_55 : decode cX8_count 55 = .ok (.ireturn, 1) := dgX8_count_0.2.2.2.2.2.1
theorem dX8_count_56 : decode cX8_count 56 = .ok (.aload_n 0, 1) := dgX8_count_0.2.2.2.2.2.2.1
theorem dX8_count_57 : decode cX8_count 57 = .ok (.getfield 10, 3) := dgX8_count_0.2.2.2.2.2.2.2.1
theorem dX8_count_60 : decode cX8_count 60 = .ok (.getfield 147, 3) := dgX8_count_0.2.2.2.2.2.2.2.2.1
theorem dX8_count_63 : decode cX8_count 63 = .ok (.ireturn, 1) := dgX8_count_0.2.2.2.2.2.2.2.2.2.1
theorem dX8_count_64 : decode cX8_count 64 = .ok (.aload_n 0, 1) := dgX8_count_0.2.2.2.2.2.2.2.2.2.2.1
theorem dX8_count_65 : decode cX8_count 65 = .ok (.getfield 10, 3) := dgX8_count_0.2.2.2.2.2.2.2.2.2.2.2.1
theorem dX8_count_68 : decode cX8_count 68 = .ok (.getfield 128, 3) := dgX8_count_0.2.2.2.2.2.2.2.2.2.2.2.2.1
theorem dX8_count_71 : decode cX8_count 71 = .ok (.ireturn, 1) := dgX8_count_0.2.2.2.2.2.2.2.2.2.2.2.2.2.1
theorem dX8_count_72 : decode cX8_count 72 = .ok (.aload_n 0, 1) := dgX8_count_0.2.2.2.2.2.2.2.2.2.2.2.2.2.2.1
theorem dX8_count_73 : decode cX8_count 73 = .ok (.getfield 10, 3) := dgX8_count_0.2.2.2.2.2.2.2.2.2.2.2.2.2.2.2
theorem dgX8_count_1 : decode cX8_count 76 = .ok (.getfield 65, 3) ∧ decode cX8_count 79 = .ok (.aload_n 0, 1) ∧ decode cX8_count 80 = .ok (.getfield 10, 3) ∧ decode cX8_count 83 = .ok (.invokevirtual 143, 3) ∧ decode cX8_count 86 = .ok (.isub, 1) ∧ decode cX8_count 87 = .ok (.ireturn, 1) ∧ decode cX8_count 88 = .ok (.aload_n 0, 1) ∧ decode cX8_count 89 = .ok (.getfield 10, 3) ∧ decode cX8_count 92 = .ok (.getfield 224, 3) ∧ decode cX8_count 95 = .ok (.ireturn, 1) ∧ decode cX8_count 96 = .ok (.aload_n 0, 1) ∧ decode cX8_count 97 = .ok (.getfield 308, 3) ∧ decode cX8_count 100 = .ok (.ireturn, 1) ∧ decode cX8_count 101 = .ok (.aload_n 0, 1) ∧ decode cX8_count 102 = .ok (.getfield 29, 3) ∧ decode cX8_count 105 = .ok (.getfield 211, 3) := by decide +kernel
theorem dX8_count_76 : decode cX8_count 76 = .ok (.getfield 65, 3) := dgX8_count_1.1
theorem dX8_count_79 : decode cX8_count 79 = .ok (.aload_n 0, 1) := dgX8_count_1.2.1
theorem dX8_count_80 : decode cX8_count 80 = .ok (.getfield 10, 3) := dgX8_count_1.2.2.1
theorem dX8_count_83 : decode cX8_count 83 = .ok (.invokevirtual 143, 3) := dgX8_count_1.2.2.2.1
theorem dX8_count_86 : decode cX8_count 86 = .ok (.isub, 1) := dgX8_count_1.2.2.2.2.1
theorem dX8_count_87 : decode cX8_count 87 = .ok (.ireturn, 1) := dgX8_count_1.2.2.2.2.2.1
theorem dX8_count_88 : decode cX8_count 88 = .ok (.aload_n 0, 1) := dgX8_count_1.2.2.2.2.2.2.1
theorem dX8_count_89 : decode cX8_count 89 = .ok (.getfield 10, 3) := dgX8_count_1.2.2.2.2.2.2.2.1
theorem dX8_count_92 : decode cX8_count 92 = .ok (.getfield 224, 3) := dgX8_count_1.2.2.2.2.2.2.2.2.1
theorem dX8_count_95 : decode cX8_count 95 = .ok (.ireturn, 1) := dgX8_count_1.2.2.2.2.2.2.2.2.2.1
theorem dX8_count_96 : decode cX8_count 96 = .ok (.aload_n 0, 1) := dgX8_count_1.2.2.2.2.2.2.2.2.2.2.1
theorem dX8_count_97 : decode cX8_count 97 = .ok (.getfield 308, 3) := dgX8_count_1.2.2.2.2.2.2.2.2.2.2.2.1
theorem dX8_count_100 : decode cX8_count 100 = .ok (.ireturn, 1) := dgX8_count_1.2.2.2.2.2.2.2.2.2.2.2.2.1
theorem dX8_count_101 : decode cX8_count 101 = .ok (.aload_n 0, 1) := dgX8_count_1.2.2.2.2.2.2.2.2.2.2.2.2.2.1
theorem dX8_count_102 : decode cX8_count 102 = .ok (.getfield 29, 3) := dgX8_count_1.2.2.2.2.2.2.2.2.2.2.2.2.2.2.1
theorem dX8_count_105 : decode cX8_count 105 = .ok (.getfield 211, 3) := dgX8_count_1.2.2.2.2.2.2.2.2.2.2.2.2.2.2.2
theorem dgX8_count_2 : decode cX8_count 108 = .ok (.ireturn, 1) ∧ decode cX8_count 109 = .ok (.aload_n 0, 1) ∧ decode cX8_count 110 = .ok (.getfield 10, 3) ∧ decode cX8_count 113 = .ok (.getfield 140, 3) ∧ decode cX8_count 116 = .ok (.ireturn, 1) ∧ decode cX8_count 117 = .ok (.ldc 64, 2) ∧ decode cX8_count 119 = .ok (.ireturn, 1) := by decide +kernel
theorem dX8_count_108 : decode cX8_count 108 = .ok (.ireturn, 1) := dgX8_count_2.1
theorem dX8_count_109 : decode cX8_count 109 = .ok (.aload_n 0, 1) := dgX8_count_2.2.1
theorem dX8_count_110 : decode cX8_count 110 = .ok (.getfield 10, 3) := dgX8_count_2.2.2.1
theorem dX8_count_113 : decode cX8_count 113 = .ok (.getfield 140, 3) := dgX8_count_2.2.2.2.1
theorem dX8_count_116 : decode cX8_count 116 = .ok (.ireturn, 1) := dgX8_count_2.2.2.2.2.1
theorem dX8_count_117 : decode cX8_count 117 = .ok (.ldc 64, 2) := dgX8_count_2.2.2.2.2.2.1
theorem dX8_count_119 : decode cX8_count 119 = .ok (.ireturn, 1) := dgX8_count_2.2.2.2.2.2.2
abbrev pX8_count : List Nat := [0, 48, 56, 64, 72, 88, 96, 101, 109, 117]
def bX8_count_0 (cal : ab_F) : ab_K := o_iload 1 <| o_sw (ab_tsw 0 [1, 2, 3, 4, 5, 6, 7, 8] 9)
def bX8_count_1 (cal : ab_F) : ab_K := o_aload 0 <| o_getf 7 0 <| o_getf 3 10 <| o_ret (some .int)
def bX8_count_2 (cal : ab_F) : ab_K := o_aload 0 <| o_getf 7 0 <| o_getf 3 13 <| o_ret (some .int)
def bX8_count_3 (cal : ab_F) : ab_K := o_aload 0 <| o_getf 7 0 <| o_getf 3 12 <| o_ret (some .int)
def bX8_count_4 (cal : ab_F) : ab_K := o_aload 0 <| o_getf 7 0 <| o_getf 3 10 <| o_aload 0 <| o_getf 7 0 <| o_callV cal 49 0 3 <| o_bin (fun x y => x - y) <| o_ret (some .int)
def bX8_count_5 (cal : ab_F) : ab_K := o_aload 0 <| o_getf 7 0 <| o_getf 3 11 <| o_ret (some .int)
def bX8_count_6 (cal : ab_F) : ab_K := o_aload 0 <| o_getf 7 8 <| o_ret (some .int)
def bX8_count_7 (cal : ab_F) : ab_K := o_aload 0 <| o_getf 7 3 <| o_getf 4 1 <| o_ret (some .int)
def bX8_count_8 (cal : ab_F) : ab_K := o_aload 0 <| o_getf 7 0 <| o_getf 3 14 <| o_ret (some .int)
def bX8_count_9 (cal : ab_F) : ab_K := o_push (.int (-1000000001)) <| o_ret (some .int)
def bX8_count (cal : ab_F) : List ab_K := [bX8_count_0 cal, bX8_count_1 cal, bX8_count_2 cal, bX8_count_3 cal, bX8_count_4 cal, bX8_count_5 cal, bX8_count_6 cal, bX8_count_7 cal, bX8_count_8 cal, bX8_count_9 cal]
set_option maxRecDepth 100000 in
theorem sX8_count_0 {G : ab_G} {xs : List Int32} {d : Nat} {cal : ab_F} (hcs : ab_CS G (ab_Z G xs) ab_Mf cal d) : ab_Sd G (ab_Z G xs) (d + 1) (ab_mY mX8_count pX8_count) 0 (bX8_count_0 cal) :=
  sn_iload_n dX8_count_0 rfl <| sn_tsw dX8_count_1 rfl rfl rfl
set_option maxRecDepth 100000 in
theorem sX8_count_1 {G : ab_G} {xs : List Int32} {d : Nat} {cal : ab_F} (hcs : ab_CS G (ab_Z G xs) ab_Mf cal d) : ab_Sd G (ab_Z G xs) (d + 1) (ab_mY mX8_count pX8_count) 48 (bX8_count_1 cal) :=
  sn_aload_n dX8_count_48 rfl <| sn_getf dX8_count_49 rfl hinX8 (by decide) w_285 <| sn_getf dX8_count_52 rfl hinX4 (by decide) w_112 <| sn_ret dX8_count_55 ab_ri_int
set_option maxRecDepth 100000 in
theorem sX8_count_2 {G : ab_G} {xs : List Int32} {d : Nat} {cal : ab_F} (hcs : ab_CS G (ab_Z G xs) ab_Mf cal d) : ab_Sd G (ab_Z G xs) (d + 1) (ab_mY mX8_count pX8_count) 56 (bX8_count_2 cal) :=
  sn_aload_n dX8_count_56 rfl <| sn_getf dX8_count_57 rfl hinX8 (by decide) w_285 <| sn_getf dX8_count_60 rfl hinX4 (by decide) w_120 <| sn_ret dX8_count_63 ab_ri_int
set_option maxRecDepth 100000 in
theorem sX8_count_3 {G : ab_G} {xs : List Int32} {d : Nat} {cal : ab_F} (hcs : ab_CS G (ab_Z G xs) ab_Mf cal d) : ab_Sd G (ab_Z G xs) (d + 1) (ab_mY mX8_count pX8_count) 64 (bX8_count_3 cal) :=
  sn_aload_n dX8_count_64 rfl <| sn_getf dX8_count_65 rfl hinX8 (by decide) w_285 <| sn_getf dX8_count_68 rfl hinX4 (by decide) w_118 <| sn_ret dX8_count_71 ab_ri_int
set_option maxRecDepth 100000 in
theorem sX8_count_4 {G : ab_G} {xs : List Int32} {d : Nat} {cal : ab_F} (hcs : ab_CS G (ab_Z G xs) ab_Mf cal d) : ab_Sd G (ab_Z G xs) (d + 1) (ab_mY mX8_count pX8_count) 72 (bX8_count_4 cal) :=
  sn_aload_n dX8_count_72 rfl <| sn_getf dX8_count_73 rfl hinX8 (by decide) w_285 <| sn_getf dX8_count_76 rfl hinX4 (by decide) w_112 <| sn_aload_n dX8_count_79 rfl <| sn_getf dX8_count_80 rfl hinX8 (by decide) w_285 <| sq_callV mt_49 hcs dX8_count_83 rfl w_470 w_471 w_472 w_56 w_473 hy_49 hm_49 <| sn_isub dX8_count_86 <| sn_ret dX8_count_87 ab_ri_int
set_option maxRecDepth 100000 in
theorem sX8_count_5 {G : ab_G} {xs : List Int32} {d : Nat} {cal : ab_F} (hcs : ab_CS G (ab_Z G xs) ab_Mf cal d) : ab_Sd G (ab_Z G xs) (d + 1) (ab_mY mX8_count pX8_count) 88 (bX8_count_5 cal) :=
  sn_aload_n dX8_count_88 rfl <| sn_getf dX8_count_89 rfl hinX8 (by decide) w_285 <| sn_getf dX8_count_92 rfl hinX4 (by decide) w_116 <| sn_ret dX8_count_95 ab_ri_int
set_option maxRecDepth 100000 in
theorem sX8_count_6 {G : ab_G} {xs : List Int32} {d : Nat} {cal : ab_F} (hcs : ab_CS G (ab_Z G xs) ab_Mf cal d) : ab_Sd G (ab_Z G xs) (d + 1) (ab_mY mX8_count pX8_count) 96 (bX8_count_6 cal) :=
  sn_aload_n dX8_count_96 rfl <| sn_getf dX8_count_97 rfl hinX8 (by decide) w_293 <| sn_ret dX8_count_100 ab_ri_int
set_option maxRecDepth 100000 in
theorem sX8_count_7 {G : ab_G} {xs : List Int32} {d : Nat} {cal : ab_F} (hcs : ab_CS G (ab_Z G xs) ab_Mf cal d) : ab_Sd G (ab_Z G xs) (d + 1) (ab_mY mX8_count pX8_count) 101 (bX8_count_7 cal) :=
  sn_aload_n dX8_count_101 rfl <| sn_getf dX8_count_102 rfl hinX8 (by decide) w_288 <| sn_getf dX8_count_105 rfl hinX5 (by decide) w_183 <| sn_ret dX8_count_108 ab_ri_int
set_option maxRecDepth 100000 in
theorem sX8_count_8 {G : ab_G} {xs : List Int32} {d : Nat} {cal : ab_F} (hcs : ab_CS G (ab_Z G xs) ab_Mf cal d) : ab_Sd G (ab_Z G xs) (d + 1) (ab_mY mX8_count pX8_count) 109 (bX8_count_8 cal) :=
  sn_aload_n dX8_count_109 rfl <| sn_getf dX8_count_110 rfl hinX8 (by decide) w_285 <| sn_getf dX8_count_113 rfl hinX4 (by decide) w_122 <| sn_ret dX8_count_116 ab_ri_int
set_option maxRecDepth 100000 in
theorem sX8_count_9 {G : ab_G} {xs : List Int32} {d : Nat} {cal : ab_F} (hcs : ab_CS G (ab_Z G xs) ab_Mf cal d) : ab_Sd G (ab_Z G xs) (d + 1) (ab_mY mX8_count pX8_count) 117 (bX8_count_9 cal) :=
  sn_ldc dX8_count_117 w_323 <| sn_ret dX8_count_119 ab_ri_int
theorem sX8_count {G : ab_G} {xs : List Int32} {d : Nat} {cal : ab_F} (hcs : ab_CS G (ab_Z G xs) ab_Mf cal d) : ab_BS G (ab_Z G xs) (d + 1) (ab_mY mX8_count pX8_count) pX8_count (bX8_count cal) := ⟨sX8_count_0 hcs, sX8_count_1 hcs, sX8_count_2 hcs, sX8_count_3 hcs, sX8_count_4 hcs, sX8_count_5 hcs, sX8_count_6 hcs, sX8_count_7 hcs, sX8_count_8 hcs, sX8_count_9 hcs, trivial⟩
theorem dgX8_isStone_0 : decode cX8_isStone 0 = .ok (.iload_n 1, 1) ∧ decode cX8_isStone 1 = .ok (.iconst 0, 1) ∧ decode cX8_isStone 2 = .ok (.aload_n 0, 1) ∧ decode cX8_isStone 3 = .ok (.getfield 10, 3) ∧ decode cX8_isStone 6 = .ok (.getfield 65, 3) ∧ decode cX8_isStone 9 = .ok (.iconst 1, 1) ∧ decode cX8_isStone 10 = .ok (.isub, 1) ∧ decode cX8_isStone 11 = .ok (.invokestatic 60, 3) ∧ decode cX8_isStone 14 = .ok (.ireturn, 1) := by decide +kernel
theorem dX8_isStone_0 : decode cX8_isStone 0 = .ok (.iload_n 1, 1) := dgX8_isStone_0.1
theorem dX8_isStone_1 : decode cX8_isStone 1 = .ok (.iconst 0, 1) := dgX8_isStone_0.2.1
theorem dX8_isStone_2 : decode cX8_isStone 2 = .ok (.aload_n 0, 1) := dgX8_isStone_0.2.2.1
theorem dX8_isStone_3 : decode cX8_isStone 3 = .ok (.getfield 10, 3) := dgX8_isStone_0.2.2.2.1
theorem dX8_isStone_6 : decode cX8_isStone 6 = .ok (.getfield 65, 3) := dgX8_isStone_0.2.2.2.2.1
theorem dX8_isStone_9 : decode cX8_isStone 9 = .ok (.iconst 1, 1) := dgX8_isStone_0.2.2.2.2.2.1
theorem dX8_isStone_10 : decode cX8_isStone 10 = .ok (.isub, 1) := dgX8_isStone_0.2.2.2.2.2.2.1
theorem dX8_isStone_11 : decode cX8_isStone 11 = .ok (.invokestatic 60, 3) := dgX8_isStone_0.2.2.2.2.2.2.2.1
theorem dX8_isStone_14 : decode cX8_isStone 14 = .ok (.ireturn, 1) := dgX8_isStone_0.2.2.2.2.2.2.2.2
abbrev pX8_isStone : List Nat := [0]
def bX8_isStone_0 (cal : ab_F) : ab_K := o_iload 1 <| o_push (.int 0) <| o_aload 0 <| o_getf 7 0 <| o_getf 3 10 <| o_push (.int 1) <| o_bin (fun x y => x - y) <| o_callS cal 123 3 <| o_ret (some .boolean)
def bX8_isStone (cal : ab_F) : List ab_K := [bX8_isStone_0 cal]
set_option maxRecDepth 100000 in
theorem sX8_isStone_0 {G : ab_G} {xs : List Int32} {d : Nat} {cal : ab_F} (hcs : ab_CS G (ab_Z G xs) ab_Mf cal d) : ab_Sd G (ab_Z G xs) (d + 1) (ab_mY mX8_isStone pX8_isStone) 0 (bX8_isStone_0 cal) :=
  sn_iload_n dX8_isStone_0 rfl <| sn_iconst dX8_isStone_1 rfl <| sn_aload_n dX8_isStone_2 rfl <| sn_getf dX8_isStone_3 rfl hinX8 (by decide) w_285 <| sn_getf dX8_isStone_6 rfl hinX4 (by decide) w_112 <| sn_iconst dX8_isStone_9 rfl <| sn_isub dX8_isStone_10 <| sq_callS mt_123 hcs dX8_isStone_11 w_320 w_321 w_55 w_322 hy_123 hm_123 <| sn_ret dX8_isStone_14 ab_ri_bool
theorem sX8_isStone {G : ab_G} {xs : List Int32} {d : Nat} {cal : ab_F} (hcs : ab_CS G (ab_Z G xs) ab_Mf cal d) : ab_BS G (ab_Z G xs) (d + 1) (ab_mY mX8_isStone pX8_isStone) pX8_isStone (bX8_isStone cal) := ⟨sX8_isStone_0 hcs, trivial⟩
theorem dgX8_isPlace_0 : decode cX8_isPlace 0 = .ok (.iload_n 0, 1) ∧ decode cX8_isPlace 1 = .ok (.iconst 0, 1) ∧ decode cX8_isPlace 2 = .ok (.bipush 11, 2) ∧ decode cX8_isPlace 4 = .ok (.invokestatic 60, 3) ∧ decode cX8_isPlace 7 = .ok (.ireturn, 1) := by decide +kernel
theorem dX8_isPlace_0 : decode cX8_isPlace 0 = .ok (.iload_n 0, 1) := dgX8_isPlace_0.1
theorem dX8_isPlace_1 : decode cX8_isPlace 1 = .ok (.iconst 0, 1) := dgX8_isPlace_0.2.1
theorem dX8_isPlace_2 : decode cX8_isPlace 2 = .ok (.bipush 11, 2) := dgX8_isPlace_0.2.2.1
theorem dX8_isPlace_4 : decode cX8_isPlace 4 = .ok (.invokestatic 60, 3) := dgX8_isPlace_0.2.2.2.1
theorem dX8_isPlace_7 : decode cX8_isPlace 7 = .ok (.ireturn, 1) := dgX8_isPlace_0.2.2.2.2
abbrev pX8_isPlace : List Nat := [0]
def bX8_isPlace_0 (cal : ab_F) : ab_K := o_iload 0 <| o_push (.int 0) <| o_push (.int 11) <| o_callS cal 123 3 <| o_ret (some .boolean)
def bX8_isPlace (cal : ab_F) : List ab_K := [bX8_isPlace_0 cal]
set_option maxRecDepth 100000 in
theorem sX8_isPlace_0 {G : ab_G} {xs : List Int32} {d : Nat} {cal : ab_F} (hcs : ab_CS G (ab_Z G xs) ab_Mf cal d) : ab_Sd G (ab_Z G xs) (d + 1) (ab_mY mX8_isPlace pX8_isPlace) 0 (bX8_isPlace_0 cal) :=
  sn_iload_n dX8_isPlace_0 rfl <| sn_iconst dX8_isPlace_1 rfl <| sn_bipush dX8_isPlace_2 rfl <| sq_callS mt_123 hcs dX8_isPlace_4 w_320 w_321 w_55 w_322 hy_123 hm_123 <| sn_ret dX8_isPlace_7 ab_ri_bool
theorem sX8_isPlace {G : ab_G} {xs : List Int32} {d : Nat} {cal : ab_F} (hcs : ab_CS G (ab_Z G xs) ab_Mf cal d) : ab_BS G (ab_Z G xs) (d + 1) (ab_mY mX8_isPlace pX8_isPlace) pX8_isPlace (bX8_isPlace cal) := ⟨sX8_isPlace_0 hcs, trivial⟩
theorem dgX8_isSheet_0 : decode cX8_isSheet 0 = .ok (.iload_n 0, 1) ∧ decode cX8_isSheet 1 = .ok (.iconst 0, 1) ∧ decode cX8_isSheet 2 = .ok (.iconst 3, 1) ∧ decode cX8_isSheet 3 = .ok (.invokestatic 60, 3) ∧ decode cX8_isSheet 6 = .ok (.ireturn, 1) := by decide +kernel
theorem dX8_isSheet_0 : decode cX8_isSheet 0 = .ok (.iload_n 0, 1) := dgX8_isSheet_0.1
theorem dX8_isSheet_1 : decode cX8_isSheet 1 = .ok (.iconst 0, 1) := dgX8_isSheet_0.2.1
theorem dX8_isSheet_2 : decode cX8_isSheet 2 = .ok (.iconst 3, 1) := dgX8_isSheet_0.2.2.1
theorem dX8_isSheet_3 : decode cX8_isSheet 3 = .ok (.invokestatic 60, 3) := dgX8_isSheet_0.2.2.2.1
theorem dX8_isSheet_6 : decode cX8_isSheet 6 = .ok (.ireturn, 1) := dgX8_isSheet_0.2.2.2.2
abbrev pX8_isSheet : List Nat := [0]
def bX8_isSheet_0 (cal : ab_F) : ab_K := o_iload 0 <| o_push (.int 0) <| o_push (.int 3) <| o_callS cal 123 3 <| o_ret (some .boolean)
def bX8_isSheet (cal : ab_F) : List ab_K := [bX8_isSheet_0 cal]
set_option maxRecDepth 100000 in
theorem sX8_isSheet_0 {G : ab_G} {xs : List Int32} {d : Nat} {cal : ab_F} (hcs : ab_CS G (ab_Z G xs) ab_Mf cal d) : ab_Sd G (ab_Z G xs) (d + 1) (ab_mY mX8_isSheet pX8_isSheet) 0 (bX8_isSheet_0 cal) :=
  sn_iload_n dX8_isSheet_0 rfl <| sn_iconst dX8_isSheet_1 rfl <| sn_iconst dX8_isSheet_2 rfl <| sq_callS mt_123 hcs dX8_isSheet_3 w_320 w_321 w_55 w_322 hy_123 hm_123 <| sn_ret dX8_isSheet_6 ab_ri_bool
theorem sX8_isSheet {G : ab_G} {xs : List Int32} {d : Nat} {cal : ab_F} (hcs : ab_CS G (ab_Z G xs) ab_Mf cal d) : ab_BS G (ab_Z G xs) (d + 1) (ab_mY mX8_isSheet pX8_isSheet) pX8_isSheet (bX8_isSheet cal) := ⟨sX8_isSheet_0 hcs, trivial⟩
theorem dgX8_isSlot_0 : decode cX8_isSlot 0 = .ok (.iload_n 0, 1) ∧ decode cX8_isSlot 1 = .ok (.iconst 0, 1) ∧ decode cX8_isSlot 2 = .ok (.iconst 4, 1) ∧ decode cX8_isSlot 3 = .ok (.invokestatic 60, 3) ∧ decode cX8_isSlot 6 = .ok (.ireturn, 1) := by decide +kernel
theorem dX8_isSlot_0 : decode cX8_isSlot 0 = .ok (.iload_n 0, 1) := dgX8_isSlot_0.1
theorem dX8_isSlot_1 : decode cX8_isSlot 1 = .ok (.iconst 0, 1) := dgX8_isSlot_0.2.1
theorem dX8_isSlot_2 : decode cX8_isSlot 2 = .ok (.iconst 4, 1) := dgX8_isSlot_0.2.2.1
theorem dX8_isSlot_3 : decode cX8_isSlot 3 = .ok (.invokestatic 60, 3) := dgX8_isSlot_0.2.2.2.1
theorem dX8_isSlot_6 : decode cX8_isSlot 6 = .ok (.ireturn, 1) := dgX8_isSlot_0.2.2.2.2
abbrev pX8_isSlot : List Nat := [0]
def bX8_isSlot_0 (cal : ab_F) : ab_K := o_iload 0 <| o_push (.int 0) <| o_push (.int 4) <| o_callS cal 123 3 <| o_ret (some .boolean)
def bX8_isSlot (cal : ab_F) : List ab_K := [bX8_isSlot_0 cal]
set_option maxRecDepth 100000 in
theorem sX8_isSlot_0 {G : ab_G} {xs : List Int32} {d : Nat} {cal : ab_F} (hcs : ab_CS G (ab_Z G xs) ab_Mf cal d) : ab_Sd G (ab_Z G xs) (d + 1) (ab_mY mX8_isSlot pX8_isSlot) 0 (bX8_isSlot_0 cal) :=
  sn_iload_n dX8_isSlot_0 rfl <| sn_iconst dX8_isSlot_1 rfl <| sn_iconst dX8_isSlot_2 rfl <| sq_callS mt_123 hcs dX8_isSlot_3 w_320 w_321 w_55 w_322 hy_123 hm_123 <| sn_ret dX8_isSlot_6 ab_ri_bool
theorem sX8_isSlot {G : ab_G} {xs : List Int32} {d : Nat} {cal : ab_F} (hcs : ab_CS G (ab_Z G xs) ab_Mf cal d) : ab_BS G (ab_Z G xs) (d + 1) (ab_mY mX8_isSlot pX8_isSlot) pX8_isSlot (bX8_isSlot cal) := ⟨sX8_isSlot_0 hcs, trivial⟩
theorem dgX8_within_0 : decode cX8_within 0 = .ok (.iload_n 0, 1) ∧ decode cX8_within 1 = .ok (.iload_n 1, 1) ∧ decode cX8_within 2 = .ok (.if_icmp .lt 12, 3) ∧ decode cX8_within 5 = .ok (.iload_n 0, 1) ∧ decode cX8_within 6 = .ok (.iload_n 2, 1) ∧ decode cX8_within 7 = .ok (.if_icmp .gt 7, 3) ∧ decode cX8_within 10 = .ok (.iconst 1, 1) ∧ decode cX8_within 11 = .ok (.goto 4, 3) ∧ decode cX8_within 14 = .ok (.iconst 0, 1) ∧ decode cX8_within 15 = .ok (.ireturn, 1) := by decide +kernel
theorem dX8_within_0 : decode cX8_within 0 = .ok (.iload_n 0, 1) := dgX8_within_0.1
theorem dX8_within_1 : decode cX8_within 1 = .ok (.iload_n 1, 1) := dgX8_within_0.2.1
theorem dX8_within_2 : decode cX8_within 2 = .ok (.if_icmp .lt 12, 3) := dgX8_within_0.2.2.1
theorem dX8_within_5 : decode cX8_within 5 = .ok (.iload_n 0, 1) := dgX8_within_0.2.2.2.1
theorem dX8_within_6 : decode cX8_within 6 = .ok (.iload_n 2, 1) := dgX8_within_0.2.2.2.2.1
theorem dX8_within_7 : decode cX8_within 7 = .ok (.if_icmp .gt 7, 3) := dgX8_within_0.2.2.2.2.2.1
theorem dX8_within_10 : decode cX8_within 10 = .ok (.iconst 1, 1) := dgX8_within_0.2.2.2.2.2.2.1
theorem dX8_within_11 : decode cX8_within 11 = .ok (.goto 4, 3) := dgX8_within_0.2.2.2.2.2.2.2.1
theorem dX8_within_14 : decode cX8_within 14 = .ok (.iconst 0, 1) := dgX8_within_0.2.2.2.2.2.2.2.2.1
theorem dX8_within_15 : decode cX8_within 15 = .ok (.ireturn, 1) := dgX8_within_0.2.2.2.2.2.2.2.2.2
abbrev pX8_within : List Nat := [0, 14, 15]
def bX8_within_0 (cal : ab_F) : ab_K := o_iload 0 <| o_iload 1 <| o_cmp (fun x y => decide (x < y)) 1 <| o_iload 0 <| o_iload 2 <| o_cmp (fun x y => decide (y < x)) 1 <| o_push (.int 1) <| o_goto 2
def bX8_within_1 (cal : ab_F) : ab_K := o_push (.int 0) <| o_goto 2
def bX8_within_2 (cal : ab_F) : ab_K := o_ret (some .boolean)
def bX8_within (cal : ab_F) : List ab_K := [bX8_within_0 cal, bX8_within_1 cal, bX8_within_2 cal]
set_option maxRecDepth 100000 in
theorem sX8_within_0 {G : ab_G} {xs : List Int32} {d : Nat} {cal : ab_F} (hcs : ab_CS G (ab_Z G xs) ab_Mf cal d) : ab_Sd G (ab_Z G xs) (d + 1) (ab_mY mX8_within pX8_within) 0 (bX8_within_0 cal) :=
  sn_iload_n dX8_within_0 rfl <| sn_iload_n dX8_within_1 rfl <| sn_cmp_lt (tg := 14) dX8_within_2 rfl rfl <| sn_iload_n dX8_within_5 rfl <| sn_iload_n dX8_within_6 rfl <| sn_cmp_gt (tg := 14) dX8_within_7 rfl rfl <| sn_iconst dX8_within_10 rfl <| sn_goto (tg := 15) dX8_within_11 rfl rfl
set_option maxRecDepth 100000 in
theorem sX8_within_1 {G : ab_G} {xs : List Int32} {d : Nat} {cal : ab_F} (hcs : ab_CS G (ab_Z G xs) ab_Mf cal d) : ab_Sd G (ab_Z G xs) (d + 1) (ab_mY mX8_within pX8_within) 14 (bX8_within_1 cal) :=
  sn_iconst dX8_within_14 rfl <| sn_next rfl
set_option maxRecDepth 100000 in
theorem sX8_within_2 {G : ab_G} {xs : List Int32} {d : Nat} {cal : ab_F} (hcs : ab_CS G (ab_Z G xs) ab_Mf cal d) : ab_Sd G (ab_Z G xs) (d + 1) (ab_mY mX8_within pX8_within) 15 (bX8_within_2 cal) :=
  sn_ret dX8_within_15 ab_ri_bool
theorem sX8_within {G : ab_G} {xs : List Int32} {d : Nat} {cal : ab_F} (hcs : ab_CS G (ab_Z G xs) ab_Mf cal d) : ab_BS G (ab_Z G xs) (d + 1) (ab_mY mX8_within pX8_within) pX8_within (bX8_within cal) := ⟨sX8_within_0 hcs, sX8_within_1 hcs, sX8_within_2 hcs, trivial⟩
theorem dgX8_clamp_0 : decode cX8_clamp 0 = .ok (.iload_n 1, 1) ∧ decode cX8_clamp 1 = .ok (.iload_n 2, 1) ∧ decode cX8_clamp 2 = .ok (.iload_n 0, 1) ∧ decode cX8_clamp 3 = .ok (.invokestatic 131, 3) ∧ decode cX8_clamp 6 = .ok (.invokestatic 322, 3) ∧ decode cX8_clamp 9 = .ok (.ireturn, 1) := by decide +kernel
theorem dX8_clamp_0 : decode cX8_clamp 0 = .ok (.iload_n 1, 1) := dgX8_clamp_0.1
theorem dX8_clamp_1 : decode cX8_clamp 1 = .ok (.iload_n 2, 1) := dgX8_clamp_0.2.1
theorem dX8_clamp_2 : decode cX8_clamp 2 = .ok (.iload_n 0, 1) := dgX8_clamp_0.2.2.1
theorem dX8_clamp_3 : decode cX8_clamp 3 = .ok (.invokestatic 131, 3) := dgX8_clamp_0.2.2.2.1
theorem dX8_clamp_6 : decode cX8_clamp 6 = .ok (.invokestatic 322, 3) := dgX8_clamp_0.2.2.2.2.1
theorem dX8_clamp_9 : decode cX8_clamp 9 = .ok (.ireturn, 1) := dgX8_clamp_0.2.2.2.2.2
abbrev pX8_clamp : List Nat := [0]
def bX8_clamp_0 (cal : ab_F) : ab_K := o_iload 1 <| o_iload 2 <| o_iload 0 <| o_m2 (fun x y => if y < x then y else x) <| o_m2 (fun x y => if x < y then y else x) <| o_ret (some .int)
def bX8_clamp (cal : ab_F) : List ab_K := [bX8_clamp_0 cal]
set_option maxRecDepth 100000 in
theorem sX8_clamp_0 {G : ab_G} {xs : List Int32} {d : Nat} {cal : ab_F} (hcs : ab_CS G (ab_Z G xs) ab_Mf cal d) : ab_Sd G (ab_Z G xs) (d + 1) (ab_mY mX8_clamp pX8_clamp) 0 (bX8_clamp_0 cal) :=
  sn_iload_n dX8_clamp_0 rfl <| sn_iload_n dX8_clamp_1 rfl <| sn_iload_n dX8_clamp_2 rfl <| sn_mmin (Nat.le_add_left 1 _) rfl dX8_clamp_3 w_371 w_372 w_66 w_373 <| sn_mmax (Nat.le_add_left 1 _) rfl dX8_clamp_6 w_374 w_375 w_66 w_376 <| sn_ret dX8_clamp_9 ab_ri_int
theorem sX8_clamp {G : ab_G} {xs : List Int32} {d : Nat} {cal : ab_F} (hcs : ab_CS G (ab_Z G xs) ab_Mf cal d) : ab_BS G (ab_Z G xs) (d + 1) (ab_mY mX8_clamp pX8_clamp) pX8_clamp (bX8_clamp cal) := ⟨sX8_clamp_0 hcs, trivial⟩
theorem dgX8_stoneOrNone_0 : decode cX8_stoneOrNone 0 = .ok (.iload_n 0, 1) ∧ decode cX8_stoneOrNone 1 = .ok (.iconst (-1), 1) ∧ decode cX8_stoneOrNone 2 = .ok (.if_icmp .ne 8, 3) ∧ decode cX8_stoneOrNone 5 = .ok (.ldc 169, 2) ∧ decode cX8_stoneOrNone 7 = .ok (.goto 4, 3) ∧ decode cX8_stoneOrNone 10 = .ok (.iload_n 0, 1) ∧ decode cX8_stoneOrNone 11 = .ok (.ireturn, 1) := by decide +kernel
theorem dX8_stoneOrNone_0 : decode cX8_stoneOrNone 0 = .ok (.iload_n 0, 1) := dgX8_stoneOrNone_0.1
theorem dX8_stoneOrNone_1 : decode cX8_stoneOrNone 1 = .ok (.iconst (-1), 1) := dgX8_stoneOrNone_0.2.1
theorem dX8_stoneOrNone_2 : decode cX8_stoneOrNone 2 = .ok (.if_icmp .ne 8, 3) := dgX8_stoneOrNone_0.2.2.1
theorem dX8_stoneOrNone_5 : decode cX8_stoneOrNone 5 = .ok (.ldc 169, 2) := dgX8_stoneOrNone_0.2.2.2.1
theorem dX8_stoneOrNone_7 : decode cX8_stoneOrNone 7 = .ok (.goto 4, 3) := dgX8_stoneOrNone_0.2.2.2.2.1
theorem dX8_stoneOrNone_10 : decode cX8_stoneOrNone 10 = .ok (.iload_n 0, 1) := dgX8_stoneOrNone_0.2.2.2.2.2.1
theorem dX8_stoneOrNone_11 : decode cX8_stoneOrNone 11 = .ok (.ireturn, 1) := dgX8_stoneOrNone_0.2.2.2.2.2.2
abbrev pX8_stoneOrNone : List Nat := [0, 10, 11]
def bX8_stoneOrNone_0 (cal : ab_F) : ab_K := o_iload 0 <| o_push (.int (-1)) <| o_cmp (fun x y => decide (¬ x = y)) 1 <| o_push (.int (-1000000005)) <| o_goto 2
def bX8_stoneOrNone_1 (cal : ab_F) : ab_K := o_iload 0 <| o_goto 2
def bX8_stoneOrNone_2 (cal : ab_F) : ab_K := o_ret (some .int)
def bX8_stoneOrNone (cal : ab_F) : List ab_K := [bX8_stoneOrNone_0 cal, bX8_stoneOrNone_1 cal, bX8_stoneOrNone_2 cal]
set_option maxRecDepth 100000 in
theorem sX8_stoneOrNone_0 {G : ab_G} {xs : List Int32} {d : Nat} {cal : ab_F} (hcs : ab_CS G (ab_Z G xs) ab_Mf cal d) : ab_Sd G (ab_Z G xs) (d + 1) (ab_mY mX8_stoneOrNone pX8_stoneOrNone) 0 (bX8_stoneOrNone_0 cal) :=
  sn_iload_n dX8_stoneOrNone_0 rfl <| sn_iconst dX8_stoneOrNone_1 rfl <| sn_cmp_ne (tg := 10) dX8_stoneOrNone_2 rfl rfl <| sn_ldc dX8_stoneOrNone_5 w_534 <| sn_goto (tg := 11) dX8_stoneOrNone_7 rfl rfl
set_option maxRecDepth 100000 in
theorem sX8_stoneOrNone_1 {G : ab_G} {xs : List Int32} {d : Nat} {cal : ab_F} (hcs : ab_CS G (ab_Z G xs) ab_Mf cal d) : ab_Sd G (ab_Z G xs) (d + 1) (ab_mY mX8_stoneOrNone pX8_stoneOrNone) 10 (bX8_stoneOrNone_1 cal) :=
  sn_iload_n dX8_stoneOrNone_10 rfl <| sn_next rfl
set_option maxRecDepth 100000 in
theorem sX8_stoneOrNone_2 {G : ab_G} {xs : List Int32} {d : Nat} {cal : ab_F} (hcs : ab_CS G (ab_Z G xs) ab_Mf cal d) : ab_Sd G (ab_Z G xs) (d + 1) (ab_mY mX8_stoneOrNone pX8_stoneOrNone) 11 (bX8_stoneOrNone_2 cal) :=
  sn_ret dX8_stoneOrNone_11 ab_ri_int
theorem sX8_stoneOrNone {G : ab_G} {xs : List Int32} {d : Nat} {cal : ab_F} (hcs : ab_CS G (ab_Z G xs) ab_Mf cal d) : ab_BS G (ab_Z G xs) (d + 1) (ab_mY mX8_stoneOrNone pX8_stoneOrNone) pX8_stoneOrNone (bX8_stoneOrNone cal) := ⟨sX8_stoneOrNone_0 hcs, sX8_stoneOrNone_1 hcs, sX8_stoneOrNone_2 hcs, trivial⟩
theorem dgX8_lookFor_0 : decode cX8_lookFor 0 = .ok (.aload_n 0, 1) ∧ decode cX8_lookFor 1 = .ok (.getfield 50, 3) ∧ decode cX8_lookFor 4 = .ok (.iload_n 1, 1) ∧ decode cX8_lookFor 5 = .ok (.aaload, 1) ∧ decode cX8_lookFor 6 = .ok (.getfield 278, 3) ∧ decode cX8_lookFor 9 = .ok (.ifCond .ne 6, 3) ∧ decode cX8_lookFor 12 = .ok (.ldc 197, 2) ∧ decode cX8_lookFor 14 = .ok (.ireturn, 1) ∧ decode cX8_lookFor 15 = .ok (.aload_n 0, 1) ∧ decode cX8_lookFor 16 = .ok (.getfield 50, 3) ∧ decode cX8_lookFor 19 = .ok (.iload_n 1, 1) ∧ decode cX8_lookFor 20 = .ok (.aaload, 1) ∧ decode cX8_lookFor 21 = .ok (.getfield 278, 3) ∧ decode cX8_lookFor 24 = .ok (.iload_n 2, 1) ∧ decode cX8_lookFor 25 = .ok (.if_icmp .ne 7, 3) ∧ decode cX8_lookFor 28 = .ok (.iconst 0, 1) := by decide +kernel
theorem dX8_lookFor_0 : decode cX8_lookFor 0 = .ok (.aload_n 0, 1) := dgX8_lookFor_0.1
theorem dX8_lookFor_1 : decode cX8_lookFor 1 = .ok (.getfield 50, 3) := dgX8_lookFor_0.2.1
theorem dX8_lookFor_4 : decode cX8_lookFor 4 = .ok (.iload_n 1, 1) := dgX8_lookFor_0.2.2.1
theorem dX8_lookFor_5 : decode cX8_lookFor 5 = .ok (.aaload, 1) := dgX8_lookFor_0.2.2.2.1
theorem dX8_lookFor_6 : decode cX8_lookFor 6 = .ok (.getfield 278, 3) := dgX8_lookFor_0.2.2.2.2.1
theorem dX8_lookFor_9 : decode cX8_lookFor 9 = .ok (.ifCond .ne 6, 3) := dgX8_lookFor_0.2.2.2.2.2.1
theorem dX8_lookFor_12 : decode cX8_lookFor 12 = .ok (.ldc 197, 2) := dgX8_lookFor_0.2.2.2.2.2.2.1
theorem dX8_lookFor_14 : decode cX8_lookFor 14 = .ok (.ireturn, 1) := dgX8_lookFor_0.2.2.2.2.2.2.2.1
theorem dX8_lookFor_15 : decode cX8_lookFor 15 = .ok (.aload_n 0, 1) := dgX8_lookFor_0.2.2.2.2.2.2.2.2.1
theorem dX8_lookFor_16 : decode cX8_lookFor 16 = .ok (.getfield 50, 3) := dgX8_lookFor_0.2.2.2.2.2.2.2.2.2.1
theorem dX8_lookFor_19 : decode cX8_lookFor 19 = .ok (.iload_n 1, 1) := dgX8_lookFor_0.2.2.2.2.2.2.2.2.2.2.1
theorem dX8_lookFor_20 : decode cX8_lookFor 20 = .ok (.aaload, 1) := dgX8_lookFor_0.2.2.2.2.2.2.2.2.2.2.2.1
theorem dX8_lookFor_21 : decode cX8_lookFor 21 = .ok (.getfield 278, 3) := dgX8_lookFor_0.2.2.2.2.2.2.2.2.2.2.2.2.1
theorem dX8_lookFor_24 : decode cX8_lookFor 24 = .ok (.iload_n 2, 1) := dgX8_lookFor_0.2.2.2.2.2.2.2.2.2.2.2.2.2.1
theorem dX8_lookFor_25 : decode cX8_lookFor 25 = .ok (.if_icmp .ne 7, 3) := dgX8_lookFor_0.2.2.2.2.2.2.2.2.2.2.2.2.2.2.1
theorem dX8_lookFor_28 : decode cX8_lookFor 28 = .ok (.iconst 0, 1) := dgX8_lookFor_0.2.2.2.2.2.2.2.2.2.2.2.2.2.2.2
theorem dgX8_lookFor_1 : decode cX8_lookFor 29 = .ok (.goto 5, 3) ∧ decode cX8_lookFor 32 = .ok (.ldc 112, 2) ∧ decode cX8_lookFor 34 = .ok (.ireturn, 1) := by decide +kernel
theorem dX8_lookFor_29 : decode cX8_lookFor 29 = .ok (.goto 5, 3) := dgX8_lookFor_1.1
theorem dX8_lookFor_32 : decode cX8_lookFor 32 = .ok (.ldc 112, 2) := dgX8_lookFor_1.2.1
theorem dX8_lookFor_34 : decode cX8_lookFor 34 = .ok (.ireturn, 1) := dgX8_lookFor_1.2.2
abbrev pX8_lookFor : List Nat := [0, 15, 32, 34]
def bX8_lookFor_0 (cal : ab_F) : ab_K := o_aload 0 <| o_getf 7 6 <| o_iload 1 <| o_aald 4 <| o_getf 2 1 <| o_if (fun x => decide (¬ x = 0)) 1 <| o_push (.int (-1000000011)) <| o_ret (some .int)
def bX8_lookFor_1 (cal : ab_F) : ab_K := o_aload 0 <| o_getf 7 6 <| o_iload 1 <| o_aald 4 <| o_getf 2 1 <| o_iload 2 <| o_cmp (fun x y => decide (¬ x = y)) 2 <| o_push (.int 0) <| o_goto 3
def bX8_lookFor_2 (cal : ab_F) : ab_K := o_push (.int (-1000000012)) <| o_goto 3
def bX8_lookFor_3 (cal : ab_F) : ab_K := o_ret (some .int)
def bX8_lookFor (cal : ab_F) : List ab_K := [bX8_lookFor_0 cal, bX8_lookFor_1 cal, bX8_lookFor_2 cal, bX8_lookFor_3 cal]
set_option maxRecDepth 100000 in
theorem sX8_lookFor_0 {G : ab_G} {xs : List Int32} {d : Nat} {cal : ab_F} (hcs : ab_CS G (ab_Z G xs) ab_Mf cal d) : ab_Sd G (ab_Z G xs) (d + 1) (ab_mY mX8_lookFor pX8_lookFor) 0 (bX8_lookFor_0 cal) :=
  sn_aload_n dX8_lookFor_0 rfl <| sn_getf dX8_lookFor_1 rfl hinX8 (by decide) w_291 <| sn_iload_n dX8_lookFor_4 rfl <| sn_aald dX8_lookFor_5 rfl <| sn_getf dX8_lookFor_6 rfl hinX3 (by decide) w_264 <| sn_if_ne (tg := 15) dX8_lookFor_9 rfl rfl <| sn_ldc dX8_lookFor_12 w_628 <| sn_ret dX8_lookFor_14 ab_ri_int
set_option maxRecDepth 100000 in
theorem sX8_lookFor_1 {G : ab_G} {xs : List Int32} {d : Nat} {cal : ab_F} (hcs : ab_CS G (ab_Z G xs) ab_Mf cal d) : ab_Sd G (ab_Z G xs) (d + 1) (ab_mY mX8_lookFor pX8_lookFor) 15 (bX8_lookFor_1 cal) :=
  sn_aload_n dX8_lookFor_15 rfl <| sn_getf dX8_lookFor_16 rfl hinX8 (by decide) w_291 <| sn_iload_n dX8_lookFor_19 rfl <| sn_aald dX8_lookFor_20 rfl <| sn_getf dX8_lookFor_21 rfl hinX3 (by decide) w_264 <| sn_iload_n dX8_lookFor_24 rfl <| sn_cmp_ne (tg := 32) dX8_lookFor_25 rfl rfl <| sn_iconst dX8_lookFor_28 rfl <| sn_goto (tg := 34) dX8_lookFor_29 rfl rfl
set_option maxRecDepth 100000 in
theorem sX8_lookFor_2 {G : ab_G} {xs : List Int32} {d : Nat} {cal : ab_F} (hcs : ab_CS G (ab_Z G xs) ab_Mf cal d) : ab_Sd G (ab_Z G xs) (d + 1) (ab_mY mX8_lookFor pX8_lookFor) 32 (bX8_lookFor_2 cal) :=
  sn_ldc dX8_lookFor_32 w_417 <| sn_next rfl
set_option maxRecDepth 100000 in
theorem sX8_lookFor_3 {G : ab_G} {xs : List Int32} {d : Nat} {cal : ab_F} (hcs : ab_CS G (ab_Z G xs) ab_Mf cal d) : ab_Sd G (ab_Z G xs) (d + 1) (ab_mY mX8_lookFor pX8_lookFor) 34 (bX8_lookFor_3 cal) :=
  sn_ret dX8_lookFor_34 ab_ri_int
theorem sX8_lookFor {G : ab_G} {xs : List Int32} {d : Nat} {cal : ab_F} (hcs : ab_CS G (ab_Z G xs) ab_Mf cal d) : ab_BS G (ab_Z G xs) (d + 1) (ab_mY mX8_lookFor pX8_lookFor) pX8_lookFor (bX8_lookFor cal) := ⟨sX8_lookFor_0 hcs, sX8_lookFor_1 hcs, sX8_lookFor_2 hcs, sX8_lookFor_3 hcs, trivial⟩
