theorem dgX4_turnAt_0 : decode cX4_turnAt 0 = .ok (.aload_n 0, 1) ∧ decode cX4_turnAt 1 = .ok (.getfield 27, 3) ∧ decode cX4_turnAt 4 = .ok (.iload_n 1, 1) ∧ decode cX4_turnAt 5 = .ok (.iaload, 1) ∧ decode cX4_turnAt 6 = .ok (.istore_n 2, 1) ∧ decode cX4_turnAt 7 = .ok (.iload_n 2, 1) ∧ decode cX4_turnAt 8 = .ok (.iconst (-1), 1) ∧ decode cX4_turnAt 9 = .ok (.if_icmp .eq 17, 3) ∧ decode cX4_turnAt 12 = .ok (.aload_n 0, 1) ∧ decode cX4_turnAt 13 = .ok (.getfield 24, 3) ∧ decode cX4_turnAt 16 = .ok (.iload_n 2, 1) ∧ decode cX4_turnAt 17 = .ok (.iconst 1, 1) ∧ decode cX4_turnAt 18 = .ok (.aload_n 0, 1) ∧ decode cX4_turnAt 19 = .ok (.getfield 24, 3) ∧ decode cX4_turnAt 22 = .ok (.iload_n 2, 1) ∧ decode cX4_turnAt 23 = .ok (.iaload, 1) := by decide +kernel
theorem dX4_turnAt_0 : decode cX4_turnAt 0 = .ok (.aload_n 0, 1) := dgX4_turnAt_0.1
theorem dX4_turnAt_1 : decode cX4_turnAt 1 = .ok (.getfield 27, 3) := dgX4_turnAt_0.2.1
theorem dX4_turnAt_4 : decode cX4_turnAt 4 = .ok (.iload_n 1, 1) := dgX4_turnAt_0.2.2.1
theorem dX4_turnAt_5 : decode cX4_turnAt 5 = .ok (.iaload, 1) := dgX4_turnAt_0.2.2.2.1
theorem dX4_turnAt_6 : decode cX4_turnAt 6 = .ok (.istore_n 2, 1) := dgX4_turnAt_0.2.2.2.2.1
theorem dX4_turnAt_7 : decode cX4_turnAt 7 = .ok (.iload_n 2, 1) := dgX4_turnAt_0.2.2.2.2.2.1
theorem dX4_turnAt_8 : decode cX4_turnAt 8 = .ok (.iconst (-1), 1) := dgX4_turnAt_0.2.2.2.2.2.2.1
theorem dX4_turnAt_9 : decode cX4_turnAt 9 = .ok (.if_icmp .eq 17, 3) := dgX4_turnAt_0.2.2.2.2.2.2.2.1
theorem dX4_turnAt_12 : decode cX4_turnAt 12 = .ok (.aload_n 0, 1) := dgX4_turnAt_0.2.2.2.2.2.2.2.2.1
theorem dX4_turnAt_13 : decode cX4_turnAt 13 = .ok (.getfield 24, 3) := dgX4_turnAt_0.2.2.2.2.2.2.2.2.2.1
theorem dX4_turnAt_16 : decode cX4_turnAt 16 = .ok (.iload_n 2, 1) := dgX4_turnAt_0.2.2.2.2.2.2.2.2.2.2.1
theorem dX4_turnAt_17 : decode cX4_turnAt 17 = .ok (.iconst 1, 1) := dgX4_turnAt_0.2.2.2.2.2.2.2.2.2.2.2.1
theorem dX4_turnAt_18 : decode cX4_turnAt 18 = .ok (.aload_n 0, 1) := dgX4_turnAt_0.2.2.2.2.2.2.2.2.2.2.2.2.1
theorem dX4_turnAt_19 : decode cX4_turnAt 19 = .ok (.getfield 24, 3) := dgX4_turnAt_0.2.2.2.2.2.2.2.2.2.2.2.2.2.1
theorem dX4_turnAt_22 : decode cX4_turnAt 22 = .ok (.iload_n 2, 1) := dgX4_turnAt_0.2.2.2.2.2.2.2.2.2.2.2.2.2.2.1
theorem dX4_turnAt_23 : decode cX4_turnAt 23 = .ok (.iaload, 1) := dgX4_turnAt_0.2.2.2.2.2.2.2.2.2.2.2.2.2.2.2
theorem dgX4_turnAt_1 : decode cX4_turnAt 24 = .ok (.isub, 1) ∧ decode cX4_turnAt 25 = .ok (.iastore, 1) ∧ decode cX4_turnAt 26 = .ok (.return_, 1) := by decide +kernel
theorem dX4_turnAt_24 : decode cX4_turnAt 24 = .ok (.isub, 1) := dgX4_turnAt_1.1
theorem dX4_turnAt_25 : decode cX4_turnAt 25 = .ok (.iastore, 1) := dgX4_turnAt_1.2.1
theorem dX4_turnAt_26 : decode cX4_turnAt 26 = .ok (.return_, 1) := dgX4_turnAt_1.2.2
abbrev pX4_turnAt : List Nat := [0, 26]
def bX4_turnAt_0 (cal : ab_F) : ab_K := o_aload 0 <| o_getf 3 5 <| o_iload 1 <| o_iald 0 <| o_istore 2 <| o_iload 2 <| o_push (.int (-1)) <| o_cmp (fun x y => decide (x = y)) 1 <| o_aload 0 <| o_getf 3 4 <| o_iload 2 <| o_push (.int 1) <| o_aload 0 <| o_getf 3 4 <| o_iload 2 <| o_iald 0 <| o_bin (fun x y => x - y) <| o_iast 0 (fun x => x) <| o_goto 1
def bX4_turnAt_1 (cal : ab_F) : ab_K := o_ret none
def bX4_turnAt (cal : ab_F) : List ab_K := [bX4_turnAt_0 cal, bX4_turnAt_1 cal]
set_option maxRecDepth 100000 in
theorem sX4_turnAt_0 {G : ab_G} {xs : List Int32} {d : Nat} {cal : ab_F} (hcs : ab_CS G (ab_Z G xs) ab_Mf cal d) : ab_Sd G (ab_Z G xs) (d + 1) (ab_mY mX4_turnAt pX4_turnAt) 0 (bX4_turnAt_0 cal) :=
  sn_aload_n dX4_turnAt_0 rfl <| sn_getf dX4_turnAt_1 rfl hinX4 (by decide) w_104 <| sn_iload_n dX4_turnAt_4 rfl <| sn_iald dX4_turnAt_5 rfl <| sn_istore_n dX4_turnAt_6 rfl (by decide) <| sn_iload_n dX4_turnAt_7 rfl <| sn_iconst dX4_turnAt_8 rfl <| sn_cmp_eq (tg := 26) dX4_turnAt_9 rfl rfl <| sn_aload_n dX4_turnAt_12 rfl <| sn_getf dX4_turnAt_13 rfl hinX4 (by decide) w_102 <| sn_iload_n dX4_turnAt_16 rfl <| sn_iconst dX4_turnAt_17 rfl <| sn_aload_n dX4_turnAt_18 rfl <| sn_getf dX4_turnAt_19 rfl hinX4 (by decide) w_102 <| sn_iload_n dX4_turnAt_22 rfl <| sn_iald dX4_turnAt_23 rfl <| sn_isub dX4_turnAt_24 <| sn_iast dX4_turnAt_25 rfl rfl <| sn_next rfl
set_option maxRecDepth 100000 in
theorem sX4_turnAt_1 {G : ab_G} {xs : List Int32} {d : Nat} {cal : ab_F} (hcs : ab_CS G (ab_Z G xs) ab_Mf cal d) : ab_Sd G (ab_Z G xs) (d + 1) (ab_mY mX4_turnAt pX4_turnAt) 26 (bX4_turnAt_1 cal) :=
  sn_ret dX4_turnAt_26 ab_ri_void
theorem sX4_turnAt {G : ab_G} {xs : List Int32} {d : Nat} {cal : ab_F} (hcs : ab_CS G (ab_Z G xs) ab_Mf cal d) : ab_BS G (ab_Z G xs) (d + 1) (ab_mY mX4_turnAt pX4_turnAt) pX4_turnAt (bX4_turnAt cal) := ⟨sX4_turnAt_0 hcs, sX4_turnAt_1 hcs, trivial⟩
theorem dgX4_gainOfChange_0 : decode cX4_gainOfChange 0 = .ok (.aload_n 0, 1) ∧ decode cX4_gainOfChange 1 = .ok (.iload_n 1, 1) ∧ decode cX4_gainOfChange 2 = .ok (.invokevirtual 136, 3) ∧ decode cX4_gainOfChange 5 = .ok (.ifCond .eq 11, 3) ∧ decode cX4_gainOfChange 8 = .ok (.aload_n 0, 1) ∧ decode cX4_gainOfChange 9 = .ok (.iload_n 2, 1) ∧ decode cX4_gainOfChange 10 = .ok (.invokevirtual 136, 3) ∧ decode cX4_gainOfChange 13 = .ok (.ifCond .ne 5, 3) ∧ decode cX4_gainOfChange 16 = .ok (.iconst 0, 1) ∧ decode cX4_gainOfChange 17 = .ok (.ireturn, 1) ∧ decode cX4_gainOfChange 18 = .ok (.aload_n 0, 1) ∧ decode cX4_gainOfChange 19 = .ok (.iload_n 1, 1) ∧ decode cX4_gainOfChange 20 = .ok (.aload_n 0, 1) ∧ decode cX4_gainOfChange 21 = .ok (.getfield 21, 3) ∧ decode cX4_gainOfChange 24 = .ok (.iload_n 1, 1) ∧ decode cX4_gainOfChange 25 = .ok (.iaload, 1) := by decide +kernel
theorem dX4_gainOfChange_0 : decode cX4_gainOfChange 0 = .ok (.aload_n 0, 1) := dgX4_gainOfChange_0.1
theorem dX4_gainOfChange_1 : decode cX4_gainOfChange 1 = .ok (.iload_n 1, 1) := dgX4_gainOfChange_0.2.1
theorem dX4_gainOfChange_2 : decode cX4_gainOfChange 2 = .ok (.invokevirtual 136, 3) := dgX4_gainOfChange_0.2.2.1
theorem dX4_gainOfChange_5 : decode cX4_gainOfChange 5 = .ok (.ifCond .eq 11, 3) := dgX4_gainOfChange_0.2.2.2.1
theorem dX4_gainOfChange_8 : decode cX4_gainOfChange 8 = .ok (.aload_n 0, 1) := dgX4_gainOfChange_0.2.2.2.2.1
theorem dX4_gainOfChange_9 : decode cX4_gainOfChange 9 = .ok (.iload_n 2, 1) := dgX4_gainOfChange_0.2.2.2.2.2.1
theorem dX4_gainOfChange_10 : decode cX4_gainOfChange 10 = .ok (.invokevirtual 136, 3) := dgX4_gainOfChange_0.2.2.2.2.2.2.1
theorem dX4_gainOfChange_13 : decode cX4_gainOfChange 13 = .ok (.ifCond .ne 5, 3) := dgX4_gainOfChange_0.2.2.2.2.2.2.2.1
theorem dX4_gainOfChange_16 : decode cX4_gainOfChange 16 = .ok (.iconst 0, 1) := dgX4_gainOfChange_0.2.2.2.2.2.2.2.2.1
theorem dX4_gainOfChange_17 : decode cX4_gainOfChange 17 = .ok (.ireturn, 1) := dgX4_gainOfChange_0.2.2.2.2.2.2.2.2.2.1
theorem dX4_gainOfChange_18 : decode cX4_gainOfChange 18 = .ok (.aload_n 0, 1) := dgX4_gainOfChange_0.2.2.2.2.2.2.2.2.2.2.1
theorem dX4_gainOfChange_19 : decode cX4_gainOfChange 19 = .ok (.iload_n 1, 1) := dgX4_gainOfChange_0.2.2.2.2.2.2.2.2.2.2.2.1
theorem dX4_gainOfChange_20 : decode cX4_gainOfChange 20 = .ok (.aload_n 0, 1) := dgX4_gainOfChange_0.2.2.2.2.2.2.2.2.2.2.2.2.1
theorem dX4_gainOfChange_21 : decode cX4_gainOfChange 21 = .ok (.getfield 21, 3) := dgX4_gainOfChange_0.2.2.2.2.2.2.2.2.2.2.2.2.2.1
theorem dX4_gainOfChange_24 : decode cX4_gainOfChange 24 = .ok (.iload_n 1, 1) := dgX4_gainOfChange_0.2.2.2.2.2.2.2.2.2.2.2.2.2.2.1
theorem dX4_gainOfChange_25 : decode cX4_gainOfChange 25 = .ok (.iaload, 1) := dgX4_gainOfChange_0.2.2.2.2.2.2.2.2.2.2.2.2.2.2.2
theorem dgX4_gainOfChange_1 : decode cX4_gainOfChange 26 = .ok (.aload_n 0, 1) ∧ decode cX4_gainOfChange 27 = .ok (.getfield 24, 3) ∧ decode cX4_gainOfChange 30 = .ok (.iload_n 1, 1) ∧ decode cX4_gainOfChange 31 = .ok (.iaload, 1) ∧ decode cX4_gainOfChange 32 = .ok (.invokevirtual 130, 3) ∧ decode cX4_gainOfChange 35 = .ok (.aload_n 0, 1) ∧ decode cX4_gainOfChange 36 = .ok (.iload_n 2, 1) ∧ decode cX4_gainOfChange 37 = .ok (.aload_n 0, 1) ∧ decode cX4_gainOfChange 38 = .ok (.getfield 21, 3) ∧ decode cX4_gainOfChange 41 = .ok (.iload_n 2, 1) ∧ decode cX4_gainOfChange 42 = .ok (.iaload, 1) ∧ decode cX4_gainOfChange 43 = .ok (.aload_n 0, 1) ∧ decode cX4_gainOfChange 44 = .ok (.getfield 24, 3) ∧ decode cX4_gainOfChange 47 = .ok (.iload_n 2, 1) ∧ decode cX4_gainOfChange 48 = .ok (.iaload, 1) ∧ decode cX4_gainOfChange 49 = .ok (.invokevirtual 130, 3) := by decide +kernel
theorem dX4_gainOfChange_26 : decode cX4_gainOfChange 26 = .ok (.aload_n 0, 1) := dgX4_gainOfChange_1.1
theorem dX4_gainOfChange_27 : decode cX4_gainOfChange 27 = .ok (.getfield 24, 3) := dgX4_gainOfChange_1.2.1
theorem dX4_gainOfChange_30 : decode cX4_gainOfChange 30 = .ok (.iload_n 1, 1) := dgX4_gainOfChange_1.2.2.1
theorem dX4_gainOfChange_31 : decode cX4_gainOfChange 31 = .ok (.iaload, 1) := dgX4_gainOfChange_1.2.2.2.1
theorem dX4_gainOfChange_32 : decode cX4_gainOfChange 32 = .ok (.invokevirtual 130, 3) := dgX4_gainOfChange_1.2.2.2.2.1
theorem dX4_gainOfChange_35 : decode cX4_gainOfChange 35 = .ok (.aload_n 0, 1) := dgX4_gainOfChange_1.2.2.2.2.2.1
theorem dX4_gainOfChange_36 : decode cX4_gainOfChange 36 = .ok (.iload_n 2, 1) := dgX4_gainOfChange_1.2.2.2.2.2.2.1
theorem dX4_gainOfChange_37 : decode cX4_gainOfChange 37 = .ok (.aload_n 0, 1) := dgX4_gainOfChange_1.2.2.2.2.2.2.2.1
theorem dX4_gainOfChange_38 : decode cX4_gainOfChange 38 = .ok (.getfield 21, 3) := dgX4_gainOfChange_1.2.2.2.2.2.2.2.2.1
theorem dX4_gainOfChange_41 : decode cX4_gainOfChange 41 = .ok (.iload_n 2, 1) := dgX4_gainOfChange_1.2.2.2.2.2.2.2.2.2.1
theorem dX4_gainOfChange_42 : decode cX4_gainOfChange 42 = .ok (.iaload, 1) := dgX4_gainOfChange_1.2.2.2.2.2.2.2.2.2.2.1
theorem dX4_gainOfChange_43 : decode cX4_gainOfChange 43 = .ok (.aload_n 0, 1) := dgX4_gainOfChange_1.2.2.2.2.2.2.2.2.2.2.2.1
theorem dX4_gainOfChange_44 : decode cX4_gainOfChange 44 = .ok (.getfield 24, 3) := dgX4_gainOfChange_1.2.2.2.2.2.2.2.2.2.2.2.2.1
theorem dX4_gainOfChange_47 : decode cX4_gainOfChange 47 = .ok (.iload_n 2, 1) := dgX4_gainOfChange_1.2.2.2.2.2.2.2.2.2.2.2.2.2.1
theorem dX4_gainOfChange_48 : decode cX4_gainOfChange 48 = .ok (.iaload, 1) := dgX4_gainOfChange_1.2.2.2.2.2.2.2.2.2.2.2.2.2.2.1
theorem dX4_gainOfChange_49 : decode cX4_gainOfChange 49 = .ok (.invokevirtual 130, 3) := dgX4_gainOfChange_1.2.2.2.2.2.2.2.2.2.2.2.2.2.2.2
theorem dgX4_gainOfChange_2 : decode cX4_gainOfChange 52 = .ok (.iadd, 1) ∧ decode cX4_gainOfChange 53 = .ok (.istore_n 3, 1) ∧ decode cX4_gainOfChange 54 = .ok (.aload_n 0, 1) ∧ decode cX4_gainOfChange 55 = .ok (.iload_n 1, 1) ∧ decode cX4_gainOfChange 56 = .ok (.aload_n 0, 1) ∧ decode cX4_gainOfChange 57 = .ok (.getfield 21, 3) ∧ decode cX4_gainOfChange 60 = .ok (.iload_n 2, 1) ∧ decode cX4_gainOfChange 61 = .ok (.iaload, 1) ∧ decode cX4_gainOfChange 62 = .ok (.aload_n 0, 1) ∧ decode cX4_gainOfChange 63 = .ok (.getfield 24, 3) ∧ decode cX4_gainOfChange 66 = .ok (.iload_n 1, 1) ∧ decode cX4_gainOfChange 67 = .ok (.iaload, 1) ∧ decode cX4_gainOfChange 68 = .ok (.invokevirtual 130, 3) ∧ decode cX4_gainOfChange 71 = .ok (.aload_n 0, 1) ∧ decode cX4_gainOfChange 72 = .ok (.iload_n 2, 1) ∧ decode cX4_gainOfChange 73 = .ok (.aload_n 0, 1) := by decide +kernel
theorem dX4_gainOfChange_52 : decode cX4_gainOfChange 52 = .ok (.iadd, 1) := dgX4_gainOfChange_2.1
theorem dX4_gainOfChange_53 : decode cX4_gainOfChange 53 = .ok (.istore_n 3, 1) := dgX4_gainOfChange_2.2.1
theorem dX4_gainOfChange_54 : decode cX4_gainOfChange 54 = .ok (.aload_n 0, 1) := dgX4_gainOfChange_2.2.2.1
theorem dX4_gainOfChange_55 : decode cX4_gainOfChange 55 = .ok (.iload_n 1, 1) := dgX4_gainOfChange_2.2.2.2.1
theorem dX4_gainOfChange_56 : decode cX4_gainOfChange 56 = .ok (.aload_n 0, 1) := dgX4_gainOfChange_2.2.2.2.2.1
theorem dX4_gainOfChange_57 : decode cX4_gainOfChange 57 = .ok (.getfield 21, 3) := dgX4_gainOfChange_2.2.2.2.2.2.1
theorem dX4_gainOfChange_60 : decode cX4_gainOfChange 60 = .ok (.iload_n 2, 1) := dgX4_gainOfChange_2.2.2.2.2.2.2.1
theorem dX4_gainOfChange_61 : decode cX4_gainOfChange 61 = .ok (.iaload, 1) := dgX4_gainOfChange_2.2.2.2.2.2.2.2.1
theorem dX4_gainOfChange_62 : decode cX4_gainOfChange 62 = .ok (.aload_n 0, 1) := dgX4_gainOfChange_2.2.2.2.2.2.2.2.2.1
theorem dX4_gainOfChange_63 : decode cX4_gainOfChange 63 = .ok (.getfield 24, 3) := dgX4_gainOfChange_2.2.2.2.2.2.2.2.2.2.1
theorem dX4_gainOfChange_66 : decode cX4_gainOfChange 66 = .ok (.iload_n 1, 1) := dgX4_gainOfChange_2.2.2.2.2.2.2.2.2.2.2.1
theorem dX4_gainOfChange_67 : decode cX4_gainOfChange 67 = .ok (.iaload, 1) := dgX4_gainOfChange_2.2.2.2.2.2.2.2.2.2.2.2.1
theorem dX4_gainOfChange_68 : decode cX4_gainOfChange 68 = .ok (.invokevirtual 130, 3) := dgX4_gainOfChange_2.2.2.2.2.2.2.2.2.2.2.2.2.1
theorem dX4_gainOfChange_71 : decode cX4_gainOfChange 71 = .ok (.aload_n 0, 1) := dgX4_gainOfChange_2.2.2.2.2.2.2.2.2.2.2.2.2.2.1
theorem dX4_gainOfChange_72 : decode cX4_gainOfChange 72 = .ok (.iload_n 2, 1) := dgX4_gainOfChange_2.2.2.2.2.2.2.2.2.2.2.2.2.2.2.1
theorem dX4_gainOfChange_73 : decode cX4_gainOfChange 73 = .ok (.aload_n 0, 1) := dgX4_gainOfChange_2.2.2.2.2.2.2.2.2.2.2.2.2.2.2.2
theorem dgX4_gainOfChange_3 : decode cX4_gainOfChange 74 = .ok (.getfield 21, 3) ∧ decode cX4_gainOfChange 77 = .ok (.iload_n 1, 1) ∧ decode cX4_gainOfChange 78 = .ok (.iaload, 1) ∧ decode cX4_gainOfChange 79 = .ok (.aload_n 0, 1) ∧ decode cX4_gainOfChange 80 = .ok (.getfield 24, 3) ∧ decode cX4_gainOfChange 83 = .ok (.iload_n 2, 1) ∧ decode cX4_gainOfChange 84 = .ok (.iaload, 1) ∧ decode cX4_gainOfChange 85 = .ok (.invokevirtual 130, 3) ∧ decode cX4_gainOfChange 88 = .ok (.iadd, 1) ∧ decode cX4_gainOfChange 89 = .ok (.istore 4, 2) ∧ decode cX4_gainOfChange 91 = .ok (.iload_n 3, 1) ∧ decode cX4_gainOfChange 92 = .ok (.iload 4, 2) ∧ decode cX4_gainOfChange 94 = .ok (.isub, 1) ∧ decode cX4_gainOfChange 95 = .ok (.ireturn, 1) := by decide +kernel
theorem dX4_gainOfChange_74 : decode cX4_gainOfChange 74 = .ok (.getfield 21, 3) := dgX4_gainOfChange_3.1
theorem dX4_gainOfChange_77 : decode cX4_gainOfChange 77 = .ok (.iload_n 1, 1) := dgX4_gainOfChange_3.2.1
theorem dX4_gainOfChange_78 : decode cX4_gainOfChange 78 = .ok (.iaload, 1) := dgX4_gainOfChange_3.2.2.1
theorem dX4_gainOfChange_79 : decode cX4_gainOfChange 79 = .ok (.aload_n 0, 1) := dgX4_gainOfChange_3.2.2.2.1
theorem dX4_gainOfChange_80 : decode cX4_gainOfChange 80 = .ok (.getfield 24, 3) := dgX4_gainOfChange_3.2.2.2.2.1
theorem dX4_gainOfChange_83 : decode cX4_gainOfChange 83 = .ok (.iload_n 2, 1) := dgX4_gainOfChange_3.2.2.2.2.2.1
theorem dX4_gainOfChange_84 : decode cX4_gainOfChange 84 = .ok (.iaload, 1) := dgX4_gainOfChange_3.2.2.2.2.2.2.1
theorem dX4_gainOfChange_85 : decode cX4_gainOfChange 85 = .ok (.invokevirtual 130, 3) := dgX4_gainOfChange_3.2.2.2.2.2.2.2.1
theorem dX4_gainOfChange_88 : decode cX4_gainOfChange 88 = .ok (.iadd, 1) := dgX4_gainOfChange_3.2.2.2.2.2.2.2.2.1
theorem dX4_gainOfChange_89 : decode cX4_gainOfChange 89 = .ok (.istore 4, 2) := dgX4_gainOfChange_3.2.2.2.2.2.2.2.2.2.1
theorem dX4_gainOfChange_91 : decode cX4_gainOfChange 91 = .ok (.iload_n 3, 1) := dgX4_gainOfChange_3.2.2.2.2.2.2.2.2.2.2.1
theorem dX4_gainOfChange_92 : decode cX4_gainOfChange 92 = .ok (.iload 4, 2) := dgX4_gainOfChange_3.2.2.2.2.2.2.2.2.2.2.2.1
theorem dX4_gainOfChange_94 : decode cX4_gainOfChange 94 = .ok (.isub, 1) := dgX4_gainOfChange_3.2.2.2.2.2.2.2.2.2.2.2.2.1
theorem dX4_gainOfChange_95 : decode cX4_gainOfChange 95 = .ok (.ireturn, 1) := dgX4_gainOfChange_3.2.2.2.2.2.2.2.2.2.2.2.2.2
abbrev pX4_gainOfChange : List Nat := [0, 16, 18]
def bX4_gainOfChange_0 (cal : ab_F) : ab_K := o_aload 0 <| o_iload 1 <| o_callV cal 44 1 3 <| o_if (fun x => decide (x = 0)) 1 <| o_aload 0 <| o_iload 2 <| o_callV cal 44 1 3 <| o_if (fun x => decide (¬ x = 0)) 2 <| o_goto 1
def bX4_gainOfChange_1 (cal : ab_F) : ab_K := o_push (.int 0) <| o_ret (some .int)
def bX4_gainOfChange_2 (cal : ab_F) : ab_K := o_aload 0 <| o_iload 1 <| o_aload 0 <| o_getf 3 3 <| o_iload 1 <| o_iald 0 <| o_aload 0 <| o_getf 3 4 <| o_iload 1 <| o_iald 0 <| o_callV cal 42 3 3 <| o_aload 0 <| o_iload 2 <| o_aload 0 <| o_getf 3 3 <| o_iload 2 <| o_iald 0 <| o_aload 0 <| o_getf 3 4 <| o_iload 2 <| o_iald 0 <| o_callV cal 42 3 3 <| o_bin (fun x y => x + y) <| o_istore 3 <| o_aload 0 <| o_iload 1 <| o_aload 0 <| o_getf 3 3 <| o_iload 2 <| o_iald 0 <| o_aload 0 <| o_getf 3 4 <| o_iload 1 <| o_iald 0 <| o_callV cal 42 3 3 <| o_aload 0 <| o_iload 2 <| o_aload 0 <| o_getf 3 3 <| o_iload 1 <| o_iald 0 <| o_aload 0 <| o_getf 3 4 <| o_iload 2 <| o_iald 0 <| o_callV cal 42 3 3 <| o_bin (fun x y => x + y) <| o_istore 4 <| o_iload 3 <| o_iload 4 <| o_bin (fun x y => x - y) <| o_ret (some .int)
def bX4_gainOfChange (cal : ab_F) : List ab_K := [bX4_gainOfChange_0 cal, bX4_gainOfChange_1 cal, bX4_gainOfChange_2 cal]
set_option maxRecDepth 100000 in
theorem sX4_gainOfChange_0 {G : ab_G} {xs : List Int32} {d : Nat} {cal : ab_F} (hcs : ab_CS G (ab_Z G xs) ab_Mf cal d) : ab_Sd G (ab_Z G xs) (d + 1) (ab_mY mX4_gainOfChange pX4_gainOfChange) 0 (bX4_gainOfChange_0 cal) :=
  sn_aload_n dX4_gainOfChange_0 rfl <| sn_iload_n dX4_gainOfChange_1 rfl <| sq_callV mt_44 hcs dX4_gainOfChange_2 rfl w_432 w_433 w_434 w_56 w_435 hy_44 hm_44 <| sn_if_eq (tg := 16) dX4_gainOfChange_5 rfl rfl <| sn_aload_n dX4_gainOfChange_8 rfl <| sn_iload_n dX4_gainOfChange_9 rfl <| sq_callV mt_44 hcs dX4_gainOfChange_10 rfl w_432 w_433 w_434 w_56 w_435 hy_44 hm_44 <| sn_if_ne (tg := 18) dX4_gainOfChange_13 rfl rfl <| sn_next rfl
set_option maxRecDepth 100000 in
theorem sX4_gainOfChange_1 {G : ab_G} {xs : List Int32} {d : Nat} {cal : ab_F} (hcs : ab_CS G (ab_Z G xs) ab_Mf cal d) : ab_Sd G (ab_Z G xs) (d + 1) (ab_mY mX4_gainOfChange pX4_gainOfChange) 16 (bX4_gainOfChange_1 cal) :=
  sn_iconst dX4_gainOfChange_16 rfl <| sn_ret dX4_gainOfChange_17 ab_ri_int
set_option maxRecDepth 100000 in
theorem sX4_gainOfChange_2 {G : ab_G} {xs : List Int32} {d : Nat} {cal : ab_F} (hcs : ab_CS G (ab_Z G xs) ab_Mf cal d) : ab_Sd G (ab_Z G xs) (d + 1) (ab_mY mX4_gainOfChange pX4_gainOfChange) 18 (bX4_gainOfChange_2 cal) :=
  sn_aload_n dX4_gainOfChange_18 rfl <| sn_iload_n dX4_gainOfChange_19 rfl <| sn_aload_n dX4_gainOfChange_20 rfl <| sn_getf dX4_gainOfChange_21 rfl hinX4 (by decide) w_99 <| sn_iload_n dX4_gainOfChange_24 rfl <| sn_iald dX4_gainOfChange_25 rfl <| sn_aload_n dX4_gainOfChange_26 rfl <| sn_getf dX4_gainOfChange_27 rfl hinX4 (by decide) w_102 <| sn_iload_n dX4_gainOfChange_30 rfl <| sn_iald dX4_gainOfChange_31 rfl <| sq_callV mt_42 hcs dX4_gainOfChange_32 rfl w_500 w_402 w_403 w_56 w_404 hy_42 hm_42 <| sn_aload_n dX4_gainOfChange_35 rfl <| sn_iload_n dX4_gainOfChange_36 rfl <| sn_aload_n dX4_gainOfChange_37 rfl <| sn_getf dX4_gainOfChange_38 rfl hinX4 (by decide) w_99 <| sn_iload_n dX4_gainOfChange_41 rfl <| sn_iald dX4_gainOfChange_42 rfl <| sn_aload_n dX4_gainOfChange_43 rfl <| sn_getf dX4_gainOfChange_44 rfl hinX4 (by decide) w_102 <| sn_iload_n dX4_gainOfChange_47 rfl <| sn_iald dX4_gainOfChange_48 rfl <| sq_callV mt_42 hcs dX4_gainOfChange_49 rfl w_500 w_402 w_403 w_56 w_404 hy_42 hm_42 <| sn_iadd dX4_gainOfChange_52 <| sn_istore_n dX4_gainOfChange_53 rfl (by decide) <| sn_aload_n dX4_gainOfChange_54 rfl <| sn_iload_n dX4_gainOfChange_55 rfl <| sn_aload_n dX4_gainOfChange_56 rfl <| sn_getf dX4_gainOfChange_57 rfl hinX4 (by decide) w_99 <| sn_iload_n dX4_gainOfChange_60 rfl <| sn_iald dX4_gainOfChange_61 rfl <| sn_aload_n dX4_gainOfChange_62 rfl <| sn_getf dX4_gainOfChange_63 rfl hinX4 (by decide) w_102 <| sn_iload_n dX4_gainOfChange_66 rfl <| sn_iald dX4_gainOfChange_67 rfl <| sq_callV mt_42 hcs dX4_gainOfChange_68 rfl w_500 w_402 w_403 w_56 w_404 hy_42 hm_42 <| sn_aload_n dX4_gainOfChange_71 rfl <| sn_iload_n dX4_gainOfChange_72 rfl <| sn_aload_n dX4_gainOfChange_73 rfl <| sn_getf dX4_gainOfChange_74 rfl hinX4 (by decide) w_99 <| sn_iload_n dX4_gainOfChange_77 rfl <| sn_iald dX4_gainOfChange_78 rfl <| sn_aload_n dX4_gainOfChange_79 rfl <| sn_getf dX4_gainOfChange_80 rfl hinX4 (by decide) w_102 <| sn_iload_n dX4_gainOfChange_83 rfl <| sn_iald dX4_gainOfChange_84 rfl <| sq_callV mt_42 hcs dX4_gainOfChange_85 rfl w_500 w_402 w_403 w_56 w_404 hy_42 hm_42 <| sn_iadd dX4_gainOfChange_88 <| sn_istore dX4_gainOfChange_89 (by decide) <| sn_iload_n dX4_gainOfChange_91 rfl <| sn_iload dX4_gainOfChange_92 <| sn_isub dX4_gainOfChange_94 <| sn_ret dX4_gainOfChange_95 ab_ri_int
theorem sX4_gainOfChange {G : ab_G} {xs : List Int32} {d : Nat} {cal : ab_F} (hcs : ab_CS G (ab_Z G xs) ab_Mf cal d) : ab_BS G (ab_Z G xs) (d + 1) (ab_mY mX4_gainOfChange pX4_gainOfChange) pX4_gainOfChange (bX4_gainOfChange cal) := ⟨sX4_gainOfChange_0 hcs, sX4_gainOfChange_1 hcs, sX4_gainOfChange_2 hcs, trivial⟩
theorem dgX4_fallFrom_0 : decode cX4_fallFrom 0 = .ok (.iconst 0, 1) ∧ decode cX4_fallFrom 1 = .ok (.istore_n 2, 1) ∧ decode cX4_fallFrom 2 = .ok (.iconst 0, 1) ∧ decode cX4_fallFrom 3 = .ok (.istore_n 3, 1) ∧ decode cX4_fallFrom 4 = .ok (.iload_n 1, 1) ∧ decode cX4_fallFrom 5 = .ok (.istore 4, 2) ∧ decode cX4_fallFrom 7 = .ok (.iload 4, 2) ∧ decode cX4_fallFrom 9 = .ok (.bipush 12, 2) ∧ decode cX4_fallFrom 11 = .ok (.if_icmp .ge 55, 3) ∧ decode cX4_fallFrom 14 = .ok (.aload_n 0, 1) ∧ decode cX4_fallFrom 15 = .ok (.getfield 27, 3) ∧ decode cX4_fallFrom 18 = .ok (.iload 4, 2) ∧ decode cX4_fallFrom 20 = .ok (.iaload, 1) ∧ decode cX4_fallFrom 21 = .ok (.iconst (-1), 1) ∧ decode cX4_fallFrom 22 = .ok (.if_icmp .ne 5, 3) ∧ decode cX4_fallFrom 25 = .ok (.iload_n 2, 1) := by decide +kernel
theorem dX4_fallFrom_0 : decode cX4_fallFrom 0 = .ok (.iconst 0, 1) := dgX4_fallFrom_0.1
theorem dX4_fallFrom_1 : decode cX4_fallFrom 1 = .ok (.istore_n 2, 1) := dgX4_fallFrom_0.2.1
theorem dX4_fallFrom_2 : decode cX4_fallFrom 2 = .ok (.iconst 0, 1) := dgX4_fallFrom_0.2.2.1
theorem dX4_fallFrom_3 : decode cX4_fallFrom 3 = .ok (.istore_n 3, 1) := dgX4_fallFrom_0.2.2.2.1
theorem dX4_fallFrom_4 : decode cX4_fallFrom 4 = .ok (.iload_n 1, 1) := dgX4_fallFrom_0.2.2.2.2.1
theorem dX4_fallFrom_5 : decode cX4_fallFrom 5 = .ok (.istore 4, 2) := dgX4_fallFrom_0.2.2.2.2.2.1
theorem dX4_fallFrom_7 : decode cX4_fallFrom 7 = .ok (.iload 4, 2) := dgX4_fallFrom_0.2.2.2.2.2.2.1
theorem dX4_fallFrom_9 : decode cX4_fallFrom 9 = .ok (.bipush 12, 2) := dgX4_fallFrom_0.2.2.2.2.2.2.2.1
theorem dX4_fallFrom_11 : decode cX4_fallFrom 11 = .ok (.if_icmp .ge 55, 3) := dgX4_fallFrom_0.2.2.2.2.2.2.2.2.1
theorem dX4_fallFrom_14 : decode cX4_fallFrom 14 = .ok (.aload_n 0, 1) := dgX4_fallFrom_0.2.2.2.2.2.2.2.2.2.1
theorem dX4_fallFrom_15 : decode cX4_fallFrom 15 = .ok (.getfield 27, 3) := dgX4_fallFrom_0.2.2.2.2.2.2.2.2.2.2.1
theorem dX4_fallFrom_18 : decode cX4_fallFrom 18 = .ok (.iload 4, 2) := dgX4_fallFrom_0.2.2.2.2.2.2.2.2.2.2.2.1
theorem dX4_fallFrom_20 : decode cX4_fallFrom 20 = .ok (.iaload, 1) := dgX4_fallFrom_0.2.2.2.2.2.2.2.2.2.2.2.2.1
theorem dX4_fallFrom_21 : decode cX4_fallFrom 21 = .ok (.iconst (-1), 1) := dgX4_fallFrom_0.2.2.2.2.2.2.2.2.2.2.2.2.2.1
theorem dX4_fallFrom_22 : decode cX4_fallFrom 22 = .ok (.if_icmp .ne 5, 3) := dgX4_fallFrom_0.2.2.2.2.2.2.2.2.2.2.2.2.2.2.1
theorem dX4_fallFrom_25 : decode cX4_fallFrom 25 = .ok (.iload_n 2, 1) := dgX4_fallFrom_0.2.2.2.2.2.2.2.2.2.2.2.2.2.2.2
theorem dgX4_fallFrom_1 : decode cX4_fallFrom 26 = .ok (.ireturn, 1) ∧ decode cX4_fallFrom 27 = .ok (.aload_n 0, 1) ∧ decode cX4_fallFrom 28 = .ok (.aload_n 0, 1) ∧ decode cX4_fallFrom 29 = .ok (.getfield 27, 3) ∧ decode cX4_fallFrom 32 = .ok (.iload 4, 2) ∧ decode cX4_fallFrom 34 = .ok (.iaload, 1) ∧ decode cX4_fallFrom 35 = .ok (.invokevirtual 100, 3) ∧ decode cX4_fallFrom 38 = .ok (.istore 5, 2) ∧ decode cX4_fallFrom 40 = .ok (.iload_n 2, 1) ∧ decode cX4_fallFrom 41 = .ok (.ifCond .le 13, 3) ∧ decode cX4_fallFrom 44 = .ok (.iload 5, 2) ∧ decode cX4_fallFrom 46 = .ok (.iconst 2, 1) ∧ decode cX4_fallFrom 47 = .ok (.iload_n 3, 1) ∧ decode cX4_fallFrom 48 = .ok (.imul, 1) ∧ decode cX4_fallFrom 49 = .ok (.if_icmp .le 5, 3) ∧ decode cX4_fallFrom 52 = .ok (.iload_n 2, 1) := by decide +kernel
theorem dX4_fallFrom_26 : decode cX4_fallFrom 26 = .ok (.ireturn, 1) := dgX4_fallFrom_1.1
theorem dX4_fallFrom_27 : decode cX4_fallFrom 27 = .ok (.aload_n 0, 1) := dgX4_fallFrom_1.2.1
theorem dX4_fallFrom_28 : decode cX4_fallFrom 28 = .ok (.aload_n 0, 1) := dgX4_fallFrom_1.2.2.1
theorem dX4_fallFrom_29 : decode cX4_fallFrom 29 = .ok (.getfield 27, 3) := dgX4_fallFrom_1.2.2.2.1
theorem dX4_fallFrom_32 : decode cX4_fallFrom 32 = .ok (.iload 4, 2) := dgX4_fallFrom_1.2.2.2.2.1
theorem dX4_fallFrom_34 : decode cX4_fallFrom 34 = .ok (.iaload, 1) := dgX4_fallFrom_1.2.2.2.2.2.1
theorem dX4_fallFrom_35 : decode cX4_fallFrom 35 = .ok (.invokevirtual 100, 3) := dgX4_fallFrom_1.2.2.2.2.2.2.1
theorem dX4_fallFrom_38 : decode cX4_fallFrom 38 = .ok (.istore 5, 2) := dgX4_fallFrom_1.2.2.2.2.2.2.2.1
theorem dX4_fallFrom_40 : decode cX4_fallFrom 40 = .ok (.iload_n 2, 1) := dgX4_fallFrom_1.2.2.2.2.2.2.2.2.1
theorem dX4_fallFrom_41 : decode cX4_fallFrom 41 = .ok (.ifCond .le 13, 3) := dgX4_fallFrom_1.2.2.2.2.2.2.2.2.2.1
theorem dX4_fallFrom_44 : decode cX4_fallFrom 44 = .ok (.iload 5, 2) := dgX4_fallFrom_1.2.2.2.2.2.2.2.2.2.2.1
theorem dX4_fallFrom_46 : decode cX4_fallFrom 46 = .ok (.iconst 2, 1) := dgX4_fallFrom_1.2.2.2.2.2.2.2.2.2.2.2.1
theorem dX4_fallFrom_47 : decode cX4_fallFrom 47 = .ok (.iload_n 3, 1) := dgX4_fallFrom_1.2.2.2.2.2.2.2.2.2.2.2.2.1
theorem dX4_fallFrom_48 : decode cX4_fallFrom 48 = .ok (.imul, 1) := dgX4_fallFrom_1.2.2.2.2.2.2.2.2.2.2.2.2.2.1
theorem dX4_fallFrom_49 : decode cX4_fallFrom 49 = .ok (.if_icmp .le 5, 3) := dgX4_fallFrom_1.2.2.2.2.2.2.2.2.2.2.2.2.2.2.1
theorem dX4_fallFrom_52 : decode cX4_fallFrom 52 = .ok (.iload_n 2, 1) := dgX4_fallFrom_1.2.2.2.2.2.2.2.2.2.2.2.2.2.2.2
theorem dgX4_fallFrom_2 : decode cX4_fallFrom 53 = .ok (.ireturn, 1) ∧ decode cX4_fallFrom 54 = .ok (.iload 5, 2) ∧ decode cX4_fallFrom 56 = .ok (.istore_n 3, 1) ∧ decode cX4_fallFrom 57 = .ok (.iinc 2 1, 3) ∧ decode cX4_fallFrom 60 = .ok (.iinc 4 1, 3) ∧ decode cX4_fallFrom 63 = .ok (.goto (-56), 3) ∧ decode cX4_fallFrom 66 = .ok (.iload_n 2, 1) ∧ decode cX4_fallFrom 67 = .ok (.ireturn, 1) := by decide +kernel
theorem dX4_fallFrom_53 : decode cX4_fallFrom 53 = .ok (.ireturn, 1) := dgX4_fallFrom_2.1
theorem dX4_fallFrom_54 : decode cX4_fallFrom 54 = .ok (.iload 5, 2) := dgX4_fallFrom_2.2.1
theorem dX4_fallFrom_56 : decode cX4_fallFrom 56 = .ok (.istore_n 3, 1) := dgX4_fallFrom_2.2.2.1
theorem dX4_fallFrom_57 : decode cX4_fallFrom 57 = .ok (.iinc 2 1, 3) := dgX4_fallFrom_2.2.2.2.1
theorem dX4_fallFrom_60 : decode cX4_fallFrom 60 = .ok (.iinc 4 1, 3) := dgX4_fallFrom_2.2.2.2.2.1
theorem dX4_fallFrom_63 : decode cX4_fallFrom 63 = .ok (.goto (-56), 3) := dgX4_fallFrom_2.2.2.2.2.2.1
theorem dX4_fallFrom_66 : decode cX4_fallFrom 66 = .ok (.iload_n 2, 1) := dgX4_fallFrom_2.2.2.2.2.2.2.1
theorem dX4_fallFrom_67 : decode cX4_fallFrom 67 = .ok (.ireturn, 1) := dgX4_fallFrom_2.2.2.2.2.2.2.2
abbrev pX4_fallFrom : List Nat := [0, 7, 27, 54, 66]
def bX4_fallFrom_0 (cal : ab_F) : ab_K := o_push (.int 0) <| o_istore 2 <| o_push (.int 0) <| o_istore 3 <| o_iload 1 <| o_istore 4 <| o_goto 1
def bX4_fallFrom_1 (cal : ab_F) : ab_K := o_iload 4 <| o_push (.int 12) <| o_cmp (fun x y => decide (y ≤ x)) 4 <| o_aload 0 <| o_getf 3 5 <| o_iload 4 <| o_iald 0 <| o_push (.int (-1)) <| o_cmp (fun x y => decide (¬ x = y)) 2 <| o_iload 2 <| o_ret (some .int)
def bX4_fallFrom_2 (cal : ab_F) : ab_K := o_aload 0 <| o_aload 0 <| o_getf 3 5 <| o_iload 4 <| o_iald 0 <| o_callV cal 40 1 3 <| o_istore 5 <| o_iload 2 <| o_if (fun x => decide (x ≤ 0)) 3 <| o_iload 5 <| o_push (.int 2) <| o_iload 3 <| o_bin (fun x y => x * y) <| o_cmp (fun x y => decide (x ≤ y)) 3 <| o_iload 2 <| o_ret (some .int)
def bX4_fallFrom_3 (cal : ab_F) : ab_K := o_iload 5 <| o_istore 3 <| o_iinc 2 1 <| o_iinc 4 1 <| o_goto 1
def bX4_fallFrom_4 (cal : ab_F) : ab_K := o_iload 2 <| o_ret (some .int)
def bX4_fallFrom (cal : ab_F) : List ab_K := [bX4_fallFrom_0 cal, bX4_fallFrom_1 cal, bX4_fallFrom_2 cal, bX4_fallFrom_3 cal, bX4_fallFrom_4 cal]
set_option maxRecDepth 100000 in
theorem sX4_fallFrom_0 {G : ab_G} {xs : List Int32} {d : Nat} {cal : ab_F} (hcs : ab_CS G (ab_Z G xs) ab_Mf cal d) : ab_Sd G (ab_Z G xs) (d + 1) (ab_mY mX4_fallFrom pX4_fallFrom) 0 (bX4_fallFrom_0 cal) :=
  sn_iconst dX4_fallFrom_0 rfl <| sn_istore_n dX4_fallFrom_1 rfl (by decide) <| sn_iconst dX4_fallFrom_2 rfl <| sn_istore_n dX4_fallFrom_3 rfl (by decide) <| sn_iload_n dX4_fallFrom_4 rfl <| sn_istore dX4_fallFrom_5 (by decide) <| sn_next rfl
set_option maxRecDepth 100000 in
theorem sX4_fallFrom_1 {G : ab_G} {xs : List Int32} {d : Nat} {cal : ab_F} (hcs : ab_CS G (ab_Z G xs) ab_Mf cal d) : ab_Sd G (ab_Z G xs) (d + 1) (ab_mY mX4_fallFrom pX4_fallFrom) 7 (bX4_fallFrom_1 cal) :=
  sn_iload dX4_fallFrom_7 <| sn_bipush dX4_fallFrom_9 rfl <| sn_cmp_ge (tg := 66) dX4_fallFrom_11 rfl rfl <| sn_aload_n dX4_fallFrom_14 rfl <| sn_getf dX4_fallFrom_15 rfl hinX4 (by decide) w_104 <| sn_iload dX4_fallFrom_18 <| sn_iald dX4_fallFrom_20 rfl <| sn_iconst dX4_fallFrom_21 rfl <| sn_cmp_ne (tg := 27) dX4_fallFrom_22 rfl rfl <| sn_iload_n dX4_fallFrom_25 rfl <| sn_ret dX4_fallFrom_26 ab_ri_int
set_option maxRecDepth 100000 in
theorem sX4_fallFrom_2 {G : ab_G} {xs : List Int32} {d : Nat} {cal : ab_F} (hcs : ab_CS G (ab_Z G xs) ab_Mf cal d) : ab_Sd G (ab_Z G xs) (d + 1) (ab_mY mX4_fallFrom pX4_fallFrom) 27 (bX4_fallFrom_2 cal) :=
  sn_aload_n dX4_fallFrom_27 rfl <| sn_aload_n dX4_fallFrom_28 rfl <| sn_getf dX4_fallFrom_29 rfl hinX4 (by decide) w_104 <| sn_iload dX4_fallFrom_32 <| sn_iald dX4_fallFrom_34 rfl <| sq_callV mt_40 hcs dX4_fallFrom_35 rfl w_342 w_343 w_344 w_56 w_345 hy_40 hm_40 <| sn_istore dX4_fallFrom_38 (by decide) <| sn_iload_n dX4_fallFrom_40 rfl <| sn_if_le (tg := 54) dX4_fallFrom_41 rfl rfl <| sn_iload dX4_fallFrom_44 <| sn_iconst dX4_fallFrom_46 rfl <| sn_iload_n dX4_fallFrom_47 rfl <| sn_imul dX4_fallFrom_48 <| sn_cmp_le (tg := 54) dX4_fallFrom_49 rfl rfl <| sn_iload_n dX4_fallFrom_52 rfl <| sn_ret dX4_fallFrom_53 ab_ri_int
set_option maxRecDepth 100000 in
theorem sX4_fallFrom_3 {G : ab_G} {xs : List Int32} {d : Nat} {cal : ab_F} (hcs : ab_CS G (ab_Z G xs) ab_Mf cal d) : ab_Sd G (ab_Z G xs) (d + 1) (ab_mY mX4_fallFrom pX4_fallFrom) 54 (bX4_fallFrom_3 cal) :=
  sn_iload dX4_fallFrom_54 <| sn_istore_n dX4_fallFrom_56 rfl (by decide) <| sn_iinc dX4_fallFrom_57 rfl (by decide) <| sn_iinc dX4_fallFrom_60 rfl (by decide) <| sn_goto (tg := 7) dX4_fallFrom_63 rfl rfl
set_option maxRecDepth 100000 in
theorem sX4_fallFrom_4 {G : ab_G} {xs : List Int32} {d : Nat} {cal : ab_F} (hcs : ab_CS G (ab_Z G xs) ab_Mf cal d) : ab_Sd G (ab_Z G xs) (d + 1) (ab_mY mX4_fallFrom pX4_fallFrom) 66 (bX4_fallFrom_4 cal) :=
  sn_iload_n dX4_fallFrom_66 rfl <| sn_ret dX4_fallFrom_67 ab_ri_int
theorem sX4_fallFrom {G : ab_G} {xs : List Int32} {d : Nat} {cal : ab_F} (hcs : ab_CS G (ab_Z G xs) ab_Mf cal d) : ab_BS G (ab_Z G xs) (d + 1) (ab_mY mX4_fallFrom pX4_fallFrom) pX4_fallFrom (bX4_fallFrom cal) := ⟨sX4_fallFrom_0 hcs, sX4_fallFrom_1 hcs, sX4_fallFrom_2 hcs, sX4_fallFrom_3 hcs, sX4_fallFrom_4 hcs, trivial⟩
theorem dgX4_unlike_0 : decode cX4_unlike 0 = .ok (.iconst 0, 1) ∧ decode cX4_unlike 1 = .ok (.istore_n 3, 1) ∧ decode cX4_unlike 2 = .ok (.iconst 0, 1) ∧ decode cX4_unlike 3 = .ok (.istore 4, 2) ∧ decode cX4_unlike 5 = .ok (.iload 4, 2) ∧ decode cX4_unlike 7 = .ok (.bipush 6, 2) ∧ decode cX4_unlike 9 = .ok (.if_icmp .ge 43, 3) ∧ decode cX4_unlike 12 = .ok (.aload_n 2, 1) ∧ decode cX4_unlike 13 = .ok (.iload 4, 2) ∧ decode cX4_unlike 15 = .ok (.invokevirtual 171, 3) ∧ decode cX4_unlike 18 = .ok (.ifCond .eq 28, 3) ∧ decode cX4_unlike 21 = .ok (.iload_n 3, 1) ∧ decode cX4_unlike 22 = .ok (.aload_n 0, 1) ∧ decode cX4_unlike 23 = .ok (.iload_n 1, 1) ∧ decode cX4_unlike 24 = .ok (.bipush 6, 2) ∧ decode cX4_unlike 26 = .ok (.imul, 1) := by decide +kernel
theorem dX4_unlike_0 : decode cX4_unlike 0 = .ok (.iconst 0, 1) := dgX4_unlike_0.1
theorem dX4_unlike_1 : decode cX4_unlike 1 = .ok (.istore_n 3, 1) := dgX4_unlike_0.2.1
theorem dX4_unlike_2 : decode cX4_unlike 2 = .ok (.iconst 0, 1) := dgX4_unlike_0.2.2.1
theorem dX4_unlike_3 : decode cX4_unlike 3 = .ok (.istore 4, 2) := dgX4_unlike_0.2.2.2.1
theorem dX4_unlike_5 : decode cX4_unlike 5 = .ok (.iload 4, 2) := dgX4_unlike_0.2.2.2.2.1
theorem dX4_unlike_7 : decode cX4_unlike 7 = .ok (.bipush 6, 2) := dgX4_unlike_0.2.2.2.2.2.1
theorem dX4_unlike_9 : decode cX4_unlike 9 = .ok (.if_icmp .ge 43, 3) := dgX4_unlike_0.2.2.2.2.2.2.1
theorem dX4_unlike_12 : decode cX4_unlike 12 = .ok (.aload_n 2, 1) := dgX4_unlike_0.2.2.2.2.2.2.2.1
theorem dX4_unlike_13 : decode cX4_unlike 13 = .ok (.iload 4, 2) := dgX4_unlike_0.2.2.2.2.2.2.2.2.1
theorem dX4_unlike_15 : decode cX4_unlike 15 = .ok (.invokevirtual 171, 3) := dgX4_unlike_0.2.2.2.2.2.2.2.2.2.1
theorem dX4_unlike_18 : decode cX4_unlike 18 = .ok (.ifCond .eq 28, 3) := dgX4_unlike_0.2.2.2.2.2.2.2.2.2.2.1
theorem dX4_unlike_21 : decode cX4_unlike 21 = .ok (.iload_n 3, 1) := dgX4_unlike_0.2.2.2.2.2.2.2.2.2.2.2.1
theorem dX4_unlike_22 : decode cX4_unlike 22 = .ok (.aload_n 0, 1) := dgX4_unlike_0.2.2.2.2.2.2.2.2.2.2.2.2.1
theorem dX4_unlike_23 : decode cX4_unlike 23 = .ok (.iload_n 1, 1) := dgX4_unlike_0.2.2.2.2.2.2.2.2.2.2.2.2.2.1
theorem dX4_unlike_24 : decode cX4_unlike 24 = .ok (.bipush 6, 2) := dgX4_unlike_0.2.2.2.2.2.2.2.2.2.2.2.2.2.2.1
theorem dX4_unlike_26 : decode cX4_unlike 26 = .ok (.imul, 1) := dgX4_unlike_0.2.2.2.2.2.2.2.2.2.2.2.2.2.2.2
theorem dgX4_unlike_1 : decode cX4_unlike 27 = .ok (.iload 4, 2) ∧ decode cX4_unlike 29 = .ok (.iadd, 1) ∧ decode cX4_unlike 30 = .ok (.invokevirtual 176, 3) ∧ decode cX4_unlike 33 = .ok (.aload_n 2, 1) ∧ decode cX4_unlike 34 = .ok (.getfield 179, 3) ∧ decode cX4_unlike 37 = .ok (.iload 4, 2) ∧ decode cX4_unlike 39 = .ok (.iaload, 1) ∧ decode cX4_unlike 40 = .ok (.isub, 1) ∧ decode cX4_unlike 41 = .ok (.invokestatic 125, 3) ∧ decode cX4_unlike 44 = .ok (.iadd, 1) ∧ decode cX4_unlike 45 = .ok (.istore_n 3, 1) ∧ decode cX4_unlike 46 = .ok (.iinc 4 1, 3) ∧ decode cX4_unlike 49 = .ok (.goto (-44), 3) ∧ decode cX4_unlike 52 = .ok (.iload_n 3, 1) ∧ decode cX4_unlike 53 = .ok (.ireturn, 1) := by decide +kernel
theorem dX4_unlike_27 : decode cX4_unlike 27 = .ok (.iload 4, 2) := dgX4_unlike_1.1
theorem dX4_unlike_29 : decode cX4_unlike 29 = .ok (.iadd, 1) := dgX4_unlike_1.2.1
theorem dX4_unlike_30 : decode cX4_unlike 30 = .ok (.invokevirtual 176, 3) := dgX4_unlike_1.2.2.1
theorem dX4_unlike_33 : decode cX4_unlike 33 = .ok (.aload_n 2, 1) := dgX4_unlike_1.2.2.2.1
theorem dX4_unlike_34 : decode cX4_unlike 34 = .ok (.getfield 179, 3) := dgX4_unlike_1.2.2.2.2.1
theorem dX4_unlike_37 : decode cX4_unlike 37 = .ok (.iload 4, 2) := dgX4_unlike_1.2.2.2.2.2.1
theorem dX4_unlike_39 : decode cX4_unlike 39 = .ok (.iaload, 1) := dgX4_unlike_1.2.2.2.2.2.2.1
theorem dX4_unlike_40 : decode cX4_unlike 40 = .ok (.isub, 1) := dgX4_unlike_1.2.2.2.2.2.2.2.1
theorem dX4_unlike_41 : decode cX4_unlike 41 = .ok (.invokestatic 125, 3) := dgX4_unlike_1.2.2.2.2.2.2.2.2.1
theorem dX4_unlike_44 : decode cX4_unlike 44 = .ok (.iadd, 1) := dgX4_unlike_1.2.2.2.2.2.2.2.2.2.1
theorem dX4_unlike_45 : decode cX4_unlike 45 = .ok (.istore_n 3, 1) := dgX4_unlike_1.2.2.2.2.2.2.2.2.2.2.1
theorem dX4_unlike_46 : decode cX4_unlike 46 = .ok (.iinc 4 1, 3) := dgX4_unlike_1.2.2.2.2.2.2.2.2.2.2.2.1
theorem dX4_unlike_49 : decode cX4_unlike 49 = .ok (.goto (-44), 3) := dgX4_unlike_1.2.2.2.2.2.2.2.2.2.2.2.2.1
theorem dX4_unlike_52 : decode cX4_unlike 52 = .ok (.iload_n 3, 1) := dgX4_unlike_1.2.2.2.2.2.2.2.2.2.2.2.2.2.1
theorem dX4_unlike_53 : decode cX4_unlike 53 = .ok (.ireturn, 1) := dgX4_unlike_1.2.2.2.2.2.2.2.2.2.2.2.2.2.2
abbrev pX4_unlike : List Nat := [0, 5, 46, 52]
def bX4_unlike_0 (cal : ab_F) : ab_K := o_push (.int 0) <| o_istore 3 <| o_push (.int 0) <| o_istore 4 <| o_goto 1
def bX4_unlike_1 (cal : ab_F) : ab_K := o_iload 4 <| o_push (.int 6) <| o_cmp (fun x y => decide (y ≤ x)) 3 <| o_aload 2 <| o_iload 4 <| o_callV cal 25 1 1 <| o_if (fun x => decide (x = 0)) 2 <| o_iload 3 <| o_aload 0 <| o_iload 1 <| o_push (.int 6) <| o_bin (fun x y => x * y) <| o_iload 4 <| o_bin (fun x y => x + y) <| o_callV cal 59 1 3 <| o_aload 2 <| o_getf 1 0 <| o_iload 4 <| o_iald 0 <| o_bin (fun x y => x - y) <| o_m1 (fun x => if 0 ≤ x then x else 0 - x) <| o_bin (fun x y => x + y) <| o_istore 3 <| o_goto 2
def bX4_unlike_2 (cal : ab_F) : ab_K := o_iinc 4 1 <| o_goto 1
def bX4_unlike_3 (cal : ab_F) : ab_K := o_iload 3 <| o_ret (some .int)
def bX4_unlike (cal : ab_F) : List ab_K := [bX4_unlike_0 cal, bX4_unlike_1 cal, bX4_unlike_2 cal, bX4_unlike_3 cal]
set_option maxRecDepth 100000 in
theorem sX4_unlike_0 {G : ab_G} {xs : List Int32} {d : Nat} {cal : ab_F} (hcs : ab_CS G (ab_Z G xs) ab_Mf cal d) : ab_Sd G (ab_Z G xs) (d + 1) (ab_mY mX4_unlike pX4_unlike) 0 (bX4_unlike_0 cal) :=
  sn_iconst dX4_unlike_0 rfl <| sn_istore_n dX4_unlike_1 rfl (by decide) <| sn_iconst dX4_unlike_2 rfl <| sn_istore dX4_unlike_3 (by decide) <| sn_next rfl
set_option maxRecDepth 100000 in
theorem sX4_unlike_1 {G : ab_G} {xs : List Int32} {d : Nat} {cal : ab_F} (hcs : ab_CS G (ab_Z G xs) ab_Mf cal d) : ab_Sd G (ab_Z G xs) (d + 1) (ab_mY mX4_unlike pX4_unlike) 5 (bX4_unlike_1 cal) :=
  sn_iload dX4_unlike_5 <| sn_bipush dX4_unlike_7 rfl <| sn_cmp_ge (tg := 52) dX4_unlike_9 rfl rfl <| sn_aload_n dX4_unlike_12 rfl <| sn_iload dX4_unlike_13 <| sq_callV mt_25 hcs dX4_unlike_15 rfl w_633 w_634 w_635 w_61 w_636 hy_25 hm_25 <| sn_if_eq (tg := 46) dX4_unlike_18 rfl rfl <| sn_iload_n dX4_unlike_21 rfl <| sn_aload_n dX4_unlike_22 rfl <| sn_iload_n dX4_unlike_23 rfl <| sn_bipush dX4_unlike_24 rfl <| sn_imul dX4_unlike_26 <| sn_iload dX4_unlike_27 <| sn_iadd dX4_unlike_29 <| sq_callV mt_59 hcs dX4_unlike_30 rfl w_639 w_640 w_641 w_56 w_642 hy_59 hm_59 <| sn_aload_n dX4_unlike_33 rfl <| sn_getf dX4_unlike_34 rfl hinX2 (by decide) w_242 <| sn_iload dX4_unlike_37 <| sn_iald dX4_unlike_39 rfl <| sn_isub dX4_unlike_40 <| sn_mabs (Nat.le_add_left 1 _) rfl dX4_unlike_41 w_405 w_406 w_66 w_407 <| sn_iadd dX4_unlike_44 <| sn_istore_n dX4_unlike_45 rfl (by decide) <| sn_next rfl
set_option maxRecDepth 100000 in
theorem sX4_unlike_2 {G : ab_G} {xs : List Int32} {d : Nat} {cal : ab_F} (hcs : ab_CS G (ab_Z G xs) ab_Mf cal d) : ab_Sd G (ab_Z G xs) (d + 1) (ab_mY mX4_unlike pX4_unlike) 46 (bX4_unlike_2 cal) :=
  sn_iinc dX4_unlike_46 rfl (by decide) <| sn_goto (tg := 5) dX4_unlike_49 rfl rfl
set_option maxRecDepth 100000 in
theorem sX4_unlike_3 {G : ab_G} {xs : List Int32} {d : Nat} {cal : ab_F} (hcs : ab_CS G (ab_Z G xs) ab_Mf cal d) : ab_Sd G (ab_Z G xs) (d + 1) (ab_mY mX4_unlike pX4_unlike) 52 (bX4_unlike_3 cal) :=
  sn_iload_n dX4_unlike_52 rfl <| sn_ret dX4_unlike_53 ab_ri_int
theorem sX4_unlike {G : ab_G} {xs : List Int32} {d : Nat} {cal : ab_F} (hcs : ab_CS G (ab_Z G xs) ab_Mf cal d) : ab_BS G (ab_Z G xs) (d + 1) (ab_mY mX4_unlike pX4_unlike) pX4_unlike (bX4_unlike cal) := ⟨sX4_unlike_0 hcs, sX4_unlike_1 hcs, sX4_unlike_2 hcs, sX4_unlike_3 hcs, trivial⟩
theorem dgX4_darkOfCell_0 : decode cX4_darkOfCell 0 = .ok (.iload_n 1, 1) ∧ decode cX4_darkOfCell 1 = .ok (.iconst 2, 1) ∧ decode cX4_darkOfCell 2 = .ok (.idiv, 1) ∧ decode cX4_darkOfCell 3 = .ok (.istore_n 2, 1) ∧ decode cX4_darkOfCell 4 = .ok (.aload_n 0, 1) ∧ decode cX4_darkOfCell 5 = .ok (.getfield 27, 3) ∧ decode cX4_darkOfCell 8 = .ok (.iload_n 2, 1) ∧ decode cX4_darkOfCell 9 = .ok (.iaload, 1) ∧ decode cX4_darkOfCell 10 = .ok (.istore_n 3, 1) ∧ decode cX4_darkOfCell 11 = .ok (.iload_n 3, 1) ∧ decode cX4_darkOfCell 12 = .ok (.iconst (-1), 1) ∧ decode cX4_darkOfCell 13 = .ok (.if_icmp .ne 5, 3) ∧ decode cX4_darkOfCell 16 = .ok (.iconst 0, 1) ∧ decode cX4_darkOfCell 17 = .ok (.ireturn, 1) ∧ decode cX4_darkOfCell 18 = .ok (.iload_n 1, 1) ∧ decode cX4_darkOfCell 19 = .ok (.iconst 2, 1) := by decide +kernel
theorem dX4_darkOfCell_0 : decode cX4_darkOfCell 0 = .ok (.iload_n 1, 1) := dgX4_darkOfCell_0.1
theorem dX4_darkOfCell_1 : decode cX4_darkOfCell 1 = .ok (.iconst 2, 1) := dgX4_darkOfCell_0.2.1
theorem dX4_darkOfCell_2 : decode cX4_darkOfCell 2 = .ok (.idiv, 1) := dgX4_darkOfCell_0.2.2.1
theorem dX4_darkOfCell_3 : decode cX4_darkOfCell 3 = .ok (.istore_n 2, 1) := dgX4_darkOfCell_0.2.2.2.1
theorem dX4_darkOfCell_4 : decode cX4_darkOfCell 4 = .ok (.aload_n 0, 1) := dgX4_darkOfCell_0.2.2.2.2.1
theorem dX4_darkOfCell_5 : decode cX4_darkOfCell 5 = .ok (.getfield 27, 3) := dgX4_darkOfCell_0.2.2.2.2.2.1
theorem dX4_darkOfCell_8 : decode cX4_darkOfCell 8 = .ok (.iload_n 2, 1) := dgX4_darkOfCell_0.2.2.2.2.2.2.1
theorem dX4_darkOfCell_9 : decode cX4_darkOfCell 9 = .ok (.iaload, 1) := dgX4_darkOfCell_0.2.2.2.2.2.2.2.1
theorem dX4_darkOfCell_10 : decode cX4_darkOfCell 10 = .ok (.istore_n 3, 1) := dgX4_darkOfCell_0.2.2.2.2.2.2.2.2.1
theorem dX4_darkOfCell_11 : decode cX4_darkOfCell 11 = .ok (.iload_n 3, 1) := dgX4_darkOfCell_0.2.2.2.2.2.2.2.2.2.1
theorem dX4_darkOfCell_12 : decode cX4_darkOfCell 12 = .ok (.iconst (-1), 1) := dgX4_darkOfCell_0.2.2.2.2.2.2.2.2.2.2.1
theorem dX4_darkOfCell_13 : decode cX4_darkOfCell 13 = .ok (.if_icmp .ne 5, 3) := dgX4_darkOfCell_0.2.2.2.2.2.2.2.2.2.2.2.1
theorem dX4_darkOfCell_16 : decode cX4_darkOfCell 16 = .ok (.iconst 0, 1) := dgX4_darkOfCell_0.2.2.2.2.2.2.2.2.2.2.2.2.1
theorem dX4_darkOfCell_17 : decode cX4_darkOfCell 17 = .ok (.ireturn, 1) := dgX4_darkOfCell_0.2.2.2.2.2.2.2.2.2.2.2.2.2.1
theorem dX4_darkOfCell_18 : decode cX4_darkOfCell 18 = .ok (.iload_n 1, 1) := dgX4_darkOfCell_0.2.2.2.2.2.2.2.2.2.2.2.2.2.2.1
theorem dX4_darkOfCell_19 : decode cX4_darkOfCell 19 = .ok (.iconst 2, 1) := dgX4_darkOfCell_0.2.2.2.2.2.2.2.2.2.2.2.2.2.2.2
theorem dgX4_darkOfCell_1 : decode cX4_darkOfCell 20 = .ok (.irem, 1) ∧ decode cX4_darkOfCell 21 = .ok (.aload_n 0, 1) ∧ decode cX4_darkOfCell 22 = .ok (.getfield 24, 3) ∧ decode cX4_darkOfCell 25 = .ok (.iload_n 3, 1) ∧ decode cX4_darkOfCell 26 = .ok (.iaload, 1) ∧ decode cX4_darkOfCell 27 = .ok (.if_icmp .ne 7, 3) ∧ decode cX4_darkOfCell 30 = .ok (.iconst 0, 1) ∧ decode cX4_darkOfCell 31 = .ok (.goto 4, 3) ∧ decode cX4_darkOfCell 34 = .ok (.iconst 1, 1) ∧ decode cX4_darkOfCell 35 = .ok (.istore 4, 2) ∧ decode cX4_darkOfCell 37 = .ok (.aload_n 0, 1) ∧ decode cX4_darkOfCell 38 = .ok (.getfield 33, 3) ∧ decode cX4_darkOfCell 41 = .ok (.iload_n 3, 1) ∧ decode cX4_darkOfCell 42 = .ok (.iload_n 2, 1) ∧ decode cX4_darkOfCell 43 = .ok (.iconst 3, 1) ∧ decode cX4_darkOfCell 44 = .ok (.idiv, 1) := by decide +kernel
theorem dX4_darkOfCell_20 : decode cX4_darkOfCell 20 = .ok (.irem, 1) := dgX4_darkOfCell_1.1
theorem dX4_darkOfCell_21 : decode cX4_darkOfCell 21 = .ok (.aload_n 0, 1) := dgX4_darkOfCell_1.2.1
theorem dX4_darkOfCell_22 : decode cX4_darkOfCell 22 = .ok (.getfield 24, 3) := dgX4_darkOfCell_1.2.2.1
theorem dX4_darkOfCell_25 : decode cX4_darkOfCell 25 = .ok (.iload_n 3, 1) := dgX4_darkOfCell_1.2.2.2.1
theorem dX4_darkOfCell_26 : decode cX4_darkOfCell 26 = .ok (.iaload, 1) := dgX4_darkOfCell_1.2.2.2.2.1
theorem dX4_darkOfCell_27 : decode cX4_darkOfCell 27 = .ok (.if_icmp .ne 7, 3) := dgX4_darkOfCell_1.2.2.2.2.2.1
theorem dX4_darkOfCell_30 : decode cX4_darkOfCell 30 = .ok (.iconst 0, 1) := dgX4_darkOfCell_1.2.2.2.2.2.2.1
theorem dX4_darkOfCell_31 : decode cX4_darkOfCell 31 = .ok (.goto 4, 3) := dgX4_darkOfCell_1.2.2.2.2.2.2.2.1
theorem dX4_darkOfCell_34 : decode cX4_darkOfCell 34 = .ok (.iconst 1, 1) := dgX4_darkOfCell_1.2.2.2.2.2.2.2.2.1
theorem dX4_darkOfCell_35 : decode cX4_darkOfCell 35 = .ok (.istore 4, 2) := dgX4_darkOfCell_1.2.2.2.2.2.2.2.2.2.1
theorem dX4_darkOfCell_37 : decode cX4_darkOfCell 37 = .ok (.aload_n 0, 1) := dgX4_darkOfCell_1.2.2.2.2.2.2.2.2.2.2.1
theorem dX4_darkOfCell_38 : decode cX4_darkOfCell 38 = .ok (.getfield 33, 3) := dgX4_darkOfCell_1.2.2.2.2.2.2.2.2.2.2.2.1
theorem dX4_darkOfCell_41 : decode cX4_darkOfCell 41 = .ok (.iload_n 3, 1) := dgX4_darkOfCell_1.2.2.2.2.2.2.2.2.2.2.2.2.1
theorem dX4_darkOfCell_42 : decode cX4_darkOfCell 42 = .ok (.iload_n 2, 1) := dgX4_darkOfCell_1.2.2.2.2.2.2.2.2.2.2.2.2.2.1
theorem dX4_darkOfCell_43 : decode cX4_darkOfCell 43 = .ok (.iconst 3, 1) := dgX4_darkOfCell_1.2.2.2.2.2.2.2.2.2.2.2.2.2.2.1
theorem dX4_darkOfCell_44 : decode cX4_darkOfCell 44 = .ok (.idiv, 1) := dgX4_darkOfCell_1.2.2.2.2.2.2.2.2.2.2.2.2.2.2.2
theorem dgX4_darkOfCell_2 : decode cX4_darkOfCell 45 = .ok (.iload 4, 2) ∧ decode cX4_darkOfCell 47 = .ok (.invokestatic 104, 3) ∧ decode cX4_darkOfCell 50 = .ok (.iaload, 1) ∧ decode cX4_darkOfCell 51 = .ok (.ireturn, 1) := by decide +kernel
theorem dX4_darkOfCell_45 : decode cX4_darkOfCell 45 = .ok (.iload 4, 2) := dgX4_darkOfCell_2.1
theorem dX4_darkOfCell_47 : decode cX4_darkOfCell 47 = .ok (.invokestatic 104, 3) := dgX4_darkOfCell_2.2.1
theorem dX4_darkOfCell_50 : decode cX4_darkOfCell 50 = .ok (.iaload, 1) := dgX4_darkOfCell_2.2.2.1
theorem dX4_darkOfCell_51 : decode cX4_darkOfCell 51 = .ok (.ireturn, 1) := dgX4_darkOfCell_2.2.2.2
abbrev pX4_darkOfCell : List Nat := [0, 18, 34, 35]
def bX4_darkOfCell_0 (cal : ab_F) : ab_K := o_iload 1 <| o_push (.int 2) <| o_div (fun x y => x / y) <| o_istore 2 <| o_aload 0 <| o_getf 3 5 <| o_iload 2 <| o_iald 0 <| o_istore 3 <| o_iload 3 <| o_push (.int (-1)) <| o_cmp (fun x y => decide (¬ x = y)) 1 <| o_push (.int 0) <| o_ret (some .int)
def bX4_darkOfCell_1 (cal : ab_F) : ab_K := o_iload 1 <| o_push (.int 2) <| o_div (fun x y => x - x / y * y) <| o_aload 0 <| o_getf 3 4 <| o_iload 3 <| o_iald 0 <| o_cmp (fun x y => decide (¬ x = y)) 2 <| o_push (.int 0) <| o_goto 3
def bX4_darkOfCell_2 (cal : ab_F) : ab_K := o_push (.int 1) <| o_goto 3
def bX4_darkOfCell_3 (cal : ab_F) : ab_K := o_istore 4 <| o_aload 0 <| o_getf 3 7 <| o_iload 3 <| o_iload 2 <| o_push (.int 3) <| o_div (fun x y => x / y) <| o_iload 4 <| o_callS cal 39 3 <| o_iald 0 <| o_ret (some .int)
def bX4_darkOfCell (cal : ab_F) : List ab_K := [bX4_darkOfCell_0 cal, bX4_darkOfCell_1 cal, bX4_darkOfCell_2 cal, bX4_darkOfCell_3 cal]
set_option maxRecDepth 100000 in
theorem sX4_darkOfCell_0 {G : ab_G} {xs : List Int32} {d : Nat} {cal : ab_F} (hcs : ab_CS G (ab_Z G xs) ab_Mf cal d) : ab_Sd G (ab_Z G xs) (d + 1) (ab_mY mX4_darkOfCell pX4_darkOfCell) 0 (bX4_darkOfCell_0 cal) :=
  sn_iload_n dX4_darkOfCell_0 rfl <| sn_iconst dX4_darkOfCell_1 rfl <| sn_idiv dX4_darkOfCell_2 <| sn_istore_n dX4_darkOfCell_3 rfl (by decide) <| sn_aload_n dX4_darkOfCell_4 rfl <| sn_getf dX4_darkOfCell_5 rfl hinX4 (by decide) w_104 <| sn_iload_n dX4_darkOfCell_8 rfl <| sn_iald dX4_darkOfCell_9 rfl <| sn_istore_n dX4_darkOfCell_10 rfl (by decide) <| sn_iload_n dX4_darkOfCell_11 rfl <| sn_iconst dX4_darkOfCell_12 rfl <| sn_cmp_ne (tg := 18) dX4_darkOfCell_13 rfl rfl <| sn_iconst dX4_darkOfCell_16 rfl <| sn_ret dX4_darkOfCell_17 ab_ri_int
set_option maxRecDepth 100000 in
theorem sX4_darkOfCell_1 {G : ab_G} {xs : List Int32} {d : Nat} {cal : ab_F} (hcs : ab_CS G (ab_Z G xs) ab_Mf cal d) : ab_Sd G (ab_Z G xs) (d + 1) (ab_mY mX4_darkOfCell pX4_darkOfCell) 18 (bX4_darkOfCell_1 cal) :=
  sn_iload_n dX4_darkOfCell_18 rfl <| sn_iconst dX4_darkOfCell_19 rfl <| sn_irem dX4_darkOfCell_20 <| sn_aload_n dX4_darkOfCell_21 rfl <| sn_getf dX4_darkOfCell_22 rfl hinX4 (by decide) w_102 <| sn_iload_n dX4_darkOfCell_25 rfl <| sn_iald dX4_darkOfCell_26 rfl <| sn_cmp_ne (tg := 34) dX4_darkOfCell_27 rfl rfl <| sn_iconst dX4_darkOfCell_30 rfl <| sn_goto (tg := 35) dX4_darkOfCell_31 rfl rfl
set_option maxRecDepth 100000 in
theorem sX4_darkOfCell_2 {G : ab_G} {xs : List Int32} {d : Nat} {cal : ab_F} (hcs : ab_CS G (ab_Z G xs) ab_Mf cal d) : ab_Sd G (ab_Z G xs) (d + 1) (ab_mY mX4_darkOfCell pX4_darkOfCell) 34 (bX4_darkOfCell_2 cal) :=
  sn_iconst dX4_darkOfCell_34 rfl <| sn_next rfl
set_option maxRecDepth 100000 in
theorem sX4_darkOfCell_3 {G : ab_G} {xs : List Int32} {d : Nat} {cal : ab_F} (hcs : ab_CS G (ab_Z G xs) ab_Mf cal d) : ab_Sd G (ab_Z G xs) (d + 1) (ab_mY mX4_darkOfCell pX4_darkOfCell) 35 (bX4_darkOfCell_3 cal) :=
  sn_istore dX4_darkOfCell_35 (by decide) <| sn_aload_n dX4_darkOfCell_37 rfl <| sn_getf dX4_darkOfCell_38 rfl hinX4 (by decide) w_108 <| sn_iload_n dX4_darkOfCell_41 rfl <| sn_iload_n dX4_darkOfCell_42 rfl <| sn_iconst dX4_darkOfCell_43 rfl <| sn_idiv dX4_darkOfCell_44 <| sn_iload dX4_darkOfCell_45 <| sq_callS mt_39 hcs dX4_darkOfCell_47 w_349 w_350 w_56 w_351 hy_39 hm_39 <| sn_iald dX4_darkOfCell_50 rfl <| sn_ret dX4_darkOfCell_51 ab_ri_int
theorem sX4_darkOfCell {G : ab_G} {xs : List Int32} {d : Nat} {cal : ab_F} (hcs : ab_CS G (ab_Z G xs) ab_Mf cal d) : ab_BS G (ab_Z G xs) (d + 1) (ab_mY mX4_darkOfCell pX4_darkOfCell) pX4_darkOfCell (bX4_darkOfCell cal) := ⟨sX4_darkOfCell_0 hcs, sX4_darkOfCell_1 hcs, sX4_darkOfCell_2 hcs, sX4_darkOfCell_3 hcs, trivial⟩
