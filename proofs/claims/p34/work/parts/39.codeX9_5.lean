theorem dgX9_item_0 : decode cX9_item 0 = .ok (.iload_n 1, 1) ∧ decode cX9_item 1 = .ok (.invokestatic 284, 3) ∧ decode cX9_item 4 = .ok (.ifCond .ne 6, 3) ∧ decode cX9_item 7 = .ok (.ldc 90, 2) ∧ decode cX9_item 9 = .ok (.ireturn, 1) ∧ decode cX9_item 10 = .ok (.aload_n 0, 1) ∧ decode cX9_item 11 = .ok (.getfield 67, 3) ∧ decode cX9_item 14 = .ok (.iload_n 1, 1) ∧ decode cX9_item 15 = .ok (.iaload, 1) ∧ decode cX9_item 16 = .ok (.ifCond .ne 6, 3) ∧ decode cX9_item 19 = .ok (.ldc 209, 2) ∧ decode cX9_item 21 = .ok (.ireturn, 1) ∧ decode cX9_item 22 = .ok (.aload_n 0, 1) ∧ decode cX9_item 23 = .ok (.getfield 67, 3) ∧ decode cX9_item 26 = .ok (.iload_n 1, 1) ∧ decode cX9_item 27 = .ok (.iaload, 1) := by decide +kernel
theorem dX9_item_0 : decode cX9_item 0 = .ok (.iload_n 1, 1) := dgX9_item_0.1
theorem dX9_item_1 : decode cX9_item 1 = .ok (.invokestatic 284, 3) := dgX9_item_0.2.1
theorem dX9_item_4 : decode cX9_item 4 = .ok (.ifCond .ne 6, 3) := dgX9_item_0.2.2.1
theorem dX9_item_7 : decode cX9_item 7 = .ok (.ldc 90, 2) := dgX9_item_0.2.2.2.1
theorem dX9_item_9 : decode cX9_item 9 = .ok (.ireturn, 1) := dgX9_item_0.2.2.2.2.1
theorem dX9_item_10 : decode cX9_item 10 = .ok (.aload_n 0, 1) := dgX9_item_0.2.2.2.2.2.1
theorem dX9_item_11 : decode cX9_item 11 = .ok (.getfield 67, 3) := dgX9_item_0.2.2.2.2.2.2.1
theorem dX9_item_14 : decode cX9_item 14 = .ok (.iload_n 1, 1) := dgX9_item_0.2.2.2.2.2.2.2.1
theorem dX9_item_15 : decode cX9_item 15 = .ok (.iaload, 1) := dgX9_item_0.2.2.2.2.2.2.2.2.1
theorem dX9_item_16 : decode cX9_item 16 = .ok (.ifCond .ne 6, 3) := dgX9_item_0.2.2.2.2.2.2.2.2.2.1
theorem dX9_item_19 : decode cX9_item 19 = .ok (.ldc 209, 2) := dgX9_item_0.2.2.2.2.2.2.2.2.2.2.1
theorem dX9_item_21 : decode cX9_item 21 = .ok (.ireturn, 1) := dgX9_item_0.2.2.2.2.2.2.2.2.2.2.2.1
theorem dX9_item_22 : decode cX9_item 22 = .ok (.aload_n 0, 1) := dgX9_item_0.2.2.2.2.2.2.2.2.2.2.2.2.1
theorem dX9_item_23 : decode cX9_item 23 = .ok (.getfield 67, 3) := dgX9_item_0.2.2.2.2.2.2.2.2.2.2.2.2.2.1
theorem dX9_item_26 : decode cX9_item 26 = .ok (.iload_n 1, 1) := dgX9_item_0.2.2.2.2.2.2.2.2.2.2.2.2.2.2.1
theorem dX9_item_27 : decode cX9_item 27 = .ok (.iaload, 1) := dgX9_item_0.2.2.2.2.2.2.2.2.2.2.2.2.2.2.2
theorem dgX9_item_1 : decode cX9_item 28 = .ok (.iconst 2, 1) ∧ decode cX9_item 29 = .ok (.if_icmp .eq 6, 3) ∧ decode cX9_item 32 = .ok (.ldc 139, 2) ∧ decode cX9_item 34 = .ok (.ireturn, 1) ∧ decode cX9_item 35 = .ok (.iload_n 2, 1) ∧ decode cX9_item 36 = .ok (.iconst 0, 1) ∧ decode cX9_item 37 = .ok (.aload_n 0, 1) ∧ decode cX9_item 38 = .ok (.getfield 70, 3) ∧ decode cX9_item 41 = .ok (.iload_n 1, 1) ∧ decode cX9_item 42 = .ok (.iaload, 1) ∧ decode cX9_item 43 = .ok (.iconst 1, 1) ∧ decode cX9_item 44 = .ok (.isub, 1) ∧ decode cX9_item 45 = .ok (.invokestatic 86, 3) ∧ decode cX9_item 48 = .ok (.ifCond .ne 7, 3) ∧ decode cX9_item 51 = .ok (.ldc_w 281, 3) ∧ decode cX9_item 54 = .ok (.ireturn, 1) := by decide +kernel
theorem dX9_item_28 : decode cX9_item 28 = .ok (.iconst 2, 1) := dgX9_item_1.1
theorem dX9_item_29 : decode cX9_item 29 = .ok (.if_icmp .eq 6, 3) := dgX9_item_1.2.1
theorem dX9_item_32 : decode cX9_item 32 = .ok (.ldc 139, 2) := dgX9_item_1.2.2.1
theorem dX9_item_34 : decode cX9_item 34 = .ok (.ireturn, 1) := dgX9_item_1.2.2.2.1
theorem dX9_item_35 : decode cX9_item 35 = .ok (.iload_n 2, 1) := dgX9_item_1.2.2.2.2.1
theorem dX9_item_36 : decode cX9_item 36 = .ok (.iconst 0, 1) := dgX9_item_1.2.2.2.2.2.1
theorem dX9_item_37 : decode cX9_item 37 = .ok (.aload_n 0, 1) := dgX9_item_1.2.2.2.2.2.2.1
theorem dX9_item_38 : decode cX9_item 38 = .ok (.getfield 70, 3) := dgX9_item_1.2.2.2.2.2.2.2.1
theorem dX9_item_41 : decode cX9_item 41 = .ok (.iload_n 1, 1) := dgX9_item_1.2.2.2.2.2.2.2.2.1
theorem dX9_item_42 : decode cX9_item 42 = .ok (.iaload, 1) := dgX9_item_1.2.2.2.2.2.2.2.2.2.1
theorem dX9_item_43 : decode cX9_item 43 = .ok (.iconst 1, 1) := dgX9_item_1.2.2.2.2.2.2.2.2.2.2.1
theorem dX9_item_44 : decode cX9_item 44 = .ok (.isub, 1) := dgX9_item_1.2.2.2.2.2.2.2.2.2.2.2.1
theorem dX9_item_45 : decode cX9_item 45 = .ok (.invokestatic 86, 3) := dgX9_item_1.2.2.2.2.2.2.2.2.2.2.2.2.1
theorem dX9_item_48 : decode cX9_item 48 = .ok (.ifCond .ne 7, 3) := dgX9_item_1.2.2.2.2.2.2.2.2.2.2.2.2.2.1
theorem dX9_item_51 : decode cX9_item 51 = .ok (.ldc_w 281, 3) := dgX9_item_1.2.2.2.2.2.2.2.2.2.2.2.2.2.2.1
theorem dX9_item_54 : decode cX9_item 54 = .ok (.ireturn, 1) := dgX9_item_1.2.2.2.2.2.2.2.2.2.2.2.2.2.2.2
theorem dgX9_item_2 : decode cX9_item 55 = .ok (.aload_n 0, 1) ∧ decode cX9_item 56 = .ok (.getfield 76, 3) ∧ decode cX9_item 59 = .ok (.bipush 24, 2) ∧ decode cX9_item 61 = .ok (.iload_n 1, 1) ∧ decode cX9_item 62 = .ok (.imul, 1) ∧ decode cX9_item 63 = .ok (.iload_n 2, 1) ∧ decode cX9_item 64 = .ok (.iadd, 1) ∧ decode cX9_item 65 = .ok (.iaload, 1) ∧ decode cX9_item 66 = .ok (.istore_n 3, 1) ∧ decode cX9_item 67 = .ok (.iload_n 3, 1) ∧ decode cX9_item 68 = .ok (.ldc 85, 2) ∧ decode cX9_item 70 = .ok (.if_icmp .ne 8, 3) ∧ decode cX9_item 73 = .ok (.ldc 139, 2) ∧ decode cX9_item 75 = .ok (.goto 4, 3) ∧ decode cX9_item 78 = .ok (.iload_n 3, 1) ∧ decode cX9_item 79 = .ok (.ireturn, 1) := by decide +kernel
theorem dX9_item_55 : decode cX9_item 55 = .ok (.aload_n 0, 1) := dgX9_item_2.1
theorem dX9_item_56 : decode cX9_item 56 = .ok (.getfield 76, 3) := dgX9_item_2.2.1
theorem dX9_item_59 : decode cX9_item 59 = .ok (.bipush 24, 2) := dgX9_item_2.2.2.1
theorem dX9_item_61 : decode cX9_item 61 = .ok (.iload_n 1, 1) := dgX9_item_2.2.2.2.1
theorem dX9_item_62 : decode cX9_item 62 = .ok (.imul, 1) := dgX9_item_2.2.2.2.2.1
theorem dX9_item_63 : decode cX9_item 63 = .ok (.iload_n 2, 1) := dgX9_item_2.2.2.2.2.2.1
theorem dX9_item_64 : decode cX9_item 64 = .ok (.iadd, 1) := dgX9_item_2.2.2.2.2.2.2.1
theorem dX9_item_65 : decode cX9_item 65 = .ok (.iaload, 1) := dgX9_item_2.2.2.2.2.2.2.2.1
theorem dX9_item_66 : decode cX9_item 66 = .ok (.istore_n 3, 1) := dgX9_item_2.2.2.2.2.2.2.2.2.1
theorem dX9_item_67 : decode cX9_item 67 = .ok (.iload_n 3, 1) := dgX9_item_2.2.2.2.2.2.2.2.2.2.1
theorem dX9_item_68 : decode cX9_item 68 = .ok (.ldc 85, 2) := dgX9_item_2.2.2.2.2.2.2.2.2.2.2.1
theorem dX9_item_70 : decode cX9_item 70 = .ok (.if_icmp .ne 8, 3) := dgX9_item_2.2.2.2.2.2.2.2.2.2.2.2.1
theorem dX9_item_73 : decode cX9_item 73 = .ok (.ldc 139, 2) := dgX9_item_2.2.2.2.2.2.2.2.2.2.2.2.2.1
theorem dX9_item_75 : decode cX9_item 75 = .ok (.goto 4, 3) := dgX9_item_2.2.2.2.2.2.2.2.2.2.2.2.2.2.1
theorem dX9_item_78 : decode cX9_item 78 = .ok (.iload_n 3, 1) := dgX9_item_2.2.2.2.2.2.2.2.2.2.2.2.2.2.2.1
theorem dX9_item_79 : decode cX9_item 79 = .ok (.ireturn, 1) := dgX9_item_2.2.2.2.2.2.2.2.2.2.2.2.2.2.2.2
abbrev pX9_item : List Nat := [0, 10, 22, 35, 55, 78, 79]
def bX9_item_0 (cal : ab_F) : ab_K := o_iload 1 <| o_callS cal 207 1 <| o_if (fun x => decide (¬ x = 0)) 1 <| o_push (.int (-1000000001)) <| o_ret (some .int)
def bX9_item_1 (cal : ab_F) : ab_K := o_aload 0 <| o_getf 8 29 <| o_iload 1 <| o_iald 0 <| o_if (fun x => decide (¬ x = 0)) 2 <| o_push (.int (-1000000011)) <| o_ret (some .int)
def bX9_item_2 (cal : ab_F) : ab_K := o_aload 0 <| o_getf 8 29 <| o_iload 1 <| o_iald 0 <| o_push (.int 2) <| o_cmp (fun x y => decide (x = y)) 3 <| o_push (.int (-1000000012)) <| o_ret (some .int)
def bX9_item_3 (cal : ab_F) : ab_K := o_iload 2 <| o_push (.int 0) <| o_aload 0 <| o_getf 8 30 <| o_iload 1 <| o_iald 0 <| o_push (.int 1) <| o_bin (fun x y => x - y) <| o_callS cal 128 3 <| o_if (fun x => decide (¬ x = 0)) 4 <| o_push (.int (-1000000013)) <| o_ret (some .int)
def bX9_item_4 (cal : ab_F) : ab_K := o_aload 0 <| o_getf 8 32 <| o_push (.int 24) <| o_iload 1 <| o_bin (fun x y => x * y) <| o_iload 2 <| o_bin (fun x y => x + y) <| o_iald 0 <| o_istore 3 <| o_iload 3 <| o_push (.int (-1000000005)) <| o_cmp (fun x y => decide (¬ x = y)) 5 <| o_push (.int (-1000000012)) <| o_goto 6
def bX9_item_5 (cal : ab_F) : ab_K := o_iload 3 <| o_goto 6
def bX9_item_6 (cal : ab_F) : ab_K := o_ret (some .int)
def bX9_item (cal : ab_F) : List ab_K := [bX9_item_0 cal, bX9_item_1 cal, bX9_item_2 cal, bX9_item_3 cal, bX9_item_4 cal, bX9_item_5 cal, bX9_item_6 cal]
set_option maxRecDepth 100000 in
theorem sX9_item_0 {G : ab_G} {xs : List Int32} {d : Nat} {cal : ab_F} (hcs : ab_CS G (ab_Z G xs) ab_Mf cal d) : ab_Sd G (ab_Z G xs) (d + 1) (ab_mY mX9_item pX9_item) 0 (bX9_item_0 cal) :=
  sn_iload_n dX9_item_0 rfl <| sq_callS mt_207 hcs dX9_item_1 w_1440 w_1441 w_63 w_1442 hy_207 hm_207 <| sn_if_ne (tg := 10) dX9_item_4 rfl rfl <| sn_ldc dX9_item_7 w_1109 <| sn_ret dX9_item_9 ab_ri_int
set_option maxRecDepth 100000 in
theorem sX9_item_1 {G : ab_G} {xs : List Int32} {d : Nat} {cal : ab_F} (hcs : ab_CS G (ab_Z G xs) ab_Mf cal d) : ab_Sd G (ab_Z G xs) (d + 1) (ab_mY mX9_item pX9_item) 10 (bX9_item_1 cal) :=
  sn_aload_n dX9_item_10 rfl <| sn_getf dX9_item_11 rfl hinX9 (by decide) w_1020 <| sn_iload_n dX9_item_14 rfl <| sn_iald dX9_item_15 rfl <| sn_if_ne (tg := 22) dX9_item_16 rfl rfl <| sn_ldc dX9_item_19 w_1332 <| sn_ret dX9_item_21 ab_ri_int
set_option maxRecDepth 100000 in
theorem sX9_item_2 {G : ab_G} {xs : List Int32} {d : Nat} {cal : ab_F} (hcs : ab_CS G (ab_Z G xs) ab_Mf cal d) : ab_Sd G (ab_Z G xs) (d + 1) (ab_mY mX9_item pX9_item) 22 (bX9_item_2 cal) :=
  sn_aload_n dX9_item_22 rfl <| sn_getf dX9_item_23 rfl hinX9 (by decide) w_1020 <| sn_iload_n dX9_item_26 rfl <| sn_iald dX9_item_27 rfl <| sn_iconst dX9_item_28 rfl <| sn_cmp_eq (tg := 35) dX9_item_29 rfl rfl <| sn_ldc dX9_item_32 w_1178 <| sn_ret dX9_item_34 ab_ri_int
set_option maxRecDepth 100000 in
theorem sX9_item_3 {G : ab_G} {xs : List Int32} {d : Nat} {cal : ab_F} (hcs : ab_CS G (ab_Z G xs) ab_Mf cal d) : ab_Sd G (ab_Z G xs) (d + 1) (ab_mY mX9_item pX9_item) 35 (bX9_item_3 cal) :=
  sn_iload_n dX9_item_35 rfl <| sn_iconst dX9_item_36 rfl <| sn_aload_n dX9_item_37 rfl <| sn_getf dX9_item_38 rfl hinX9 (by decide) w_1021 <| sn_iload_n dX9_item_41 rfl <| sn_iald dX9_item_42 rfl <| sn_iconst dX9_item_43 rfl <| sn_isub dX9_item_44 <| sq_callS mt_128 hcs dX9_item_45 w_1106 w_1107 w_63 w_1108 hy_128 hm_128 <| sn_if_ne (tg := 55) dX9_item_48 rfl rfl <| sn_ldcw dX9_item_51 w_1421 <| sn_ret dX9_item_54 ab_ri_int
set_option maxRecDepth 100000 in
theorem sX9_item_4 {G : ab_G} {xs : List Int32} {d : Nat} {cal : ab_F} (hcs : ab_CS G (ab_Z G xs) ab_Mf cal d) : ab_Sd G (ab_Z G xs) (d + 1) (ab_mY mX9_item pX9_item) 55 (bX9_item_4 cal) :=
  sn_aload_n dX9_item_55 rfl <| sn_getf dX9_item_56 rfl hinX9 (by decide) w_1023 <| sn_bipush dX9_item_59 rfl <| sn_iload_n dX9_item_61 rfl <| sn_imul dX9_item_62 <| sn_iload_n dX9_item_63 rfl <| sn_iadd dX9_item_64 <| sn_iald dX9_item_65 rfl <| sn_istore_n dX9_item_66 rfl (by decide) <| sn_iload_n dX9_item_67 rfl <| sn_ldc dX9_item_68 w_1260 <| sn_cmp_ne (tg := 78) dX9_item_70 rfl rfl <| sn_ldc dX9_item_73 w_1178 <| sn_goto (tg := 79) dX9_item_75 rfl rfl
set_option maxRecDepth 100000 in
theorem sX9_item_5 {G : ab_G} {xs : List Int32} {d : Nat} {cal : ab_F} (hcs : ab_CS G (ab_Z G xs) ab_Mf cal d) : ab_Sd G (ab_Z G xs) (d + 1) (ab_mY mX9_item pX9_item) 78 (bX9_item_5 cal) :=
  sn_iload_n dX9_item_78 rfl <| sn_next rfl
set_option maxRecDepth 100000 in
theorem sX9_item_6 {G : ab_G} {xs : List Int32} {d : Nat} {cal : ab_F} (hcs : ab_CS G (ab_Z G xs) ab_Mf cal d) : ab_Sd G (ab_Z G xs) (d + 1) (ab_mY mX9_item pX9_item) 79 (bX9_item_6 cal) :=
  sn_ret dX9_item_79 ab_ri_int
theorem sX9_item {G : ab_G} {xs : List Int32} {d : Nat} {cal : ab_F} (hcs : ab_CS G (ab_Z G xs) ab_Mf cal d) : ab_BS G (ab_Z G xs) (d + 1) (ab_mY mX9_item pX9_item) pX9_item (bX9_item cal) := ⟨sX9_item_0 hcs, sX9_item_1 hcs, sX9_item_2 hcs, sX9_item_3 hcs, sX9_item_4 hcs, sX9_item_5 hcs, sX9_item_6 hcs, trivial⟩
theorem dgX9_rest_0 : decode cX9_rest 0 = .ok (.iload_n 1, 1) ∧ decode cX9_rest 1 = .ok (.invokestatic 284, 3) ∧ decode cX9_rest 4 = .ok (.ifCond .ne 6, 3) ∧ decode cX9_rest 7 = .ok (.ldc 90, 2) ∧ decode cX9_rest 9 = .ok (.ireturn, 1) ∧ decode cX9_rest 10 = .ok (.aload_n 0, 1) ∧ decode cX9_rest 11 = .ok (.getfield 67, 3) ∧ decode cX9_rest 14 = .ok (.iload_n 1, 1) ∧ decode cX9_rest 15 = .ok (.iaload, 1) ∧ decode cX9_rest 16 = .ok (.ifCond .ne 6, 3) ∧ decode cX9_rest 19 = .ok (.ldc 209, 2) ∧ decode cX9_rest 21 = .ok (.ireturn, 1) ∧ decode cX9_rest 22 = .ok (.aload_n 0, 1) ∧ decode cX9_rest 23 = .ok (.getfield 67, 3) ∧ decode cX9_rest 26 = .ok (.iload_n 1, 1) ∧ decode cX9_rest 27 = .ok (.iaload, 1) := by decide +kernel
theorem dX9_rest_0 : decode cX9_rest 0 = .ok (.iload_n 1, 1) := dgX9_rest_0.1
theorem dX9_rest_1 : decode cX9_rest 1 = .ok (.invokestatic 284, 3) := dgX9_rest_0.2.1
theorem dX9_rest_4 : decode cX9_rest 4 = .ok (.ifCond .ne 6, 3) := dgX9_rest_0.2.2.1
theorem dX9_rest_7 : decode cX9_rest 7 = .ok (.ldc 90, 2) := dgX9_rest_0.2.2.2.1
theorem dX9_rest_9 : decode cX9_rest 9 = .ok (.ireturn, 1) := dgX9_rest_0.2.2.2.2.1
theorem dX9_rest_10 : decode cX9_rest 10 = .ok (.aload_n 0, 1) := dgX9_rest_0.2.2.2.2.2.1
theorem dX9_rest_11 : decode cX9_rest 11 = .ok (.getfield 67, 3) := dgX9_rest_0.2.2.2.2.2.2.1
theorem dX9_rest_14 : decode cX9_rest 14 = .ok (.iload_n 1, 1) := dgX9_rest_0.2.2.2.2.2.2.2.1
theorem dX9_rest_15 : decode cX9_rest 15 = .ok (.iaload, 1) := dgX9_rest_0.2.2.2.2.2.2.2.2.1
theorem dX9_rest_16 : decode cX9_rest 16 = .ok (.ifCond .ne 6, 3) := dgX9_rest_0.2.2.2.2.2.2.2.2.2.1
theorem dX9_rest_19 : decode cX9_rest 19 = .ok (.ldc 209, 2) := dgX9_rest_0.2.2.2.2.2.2.2.2.2.2.1
theorem dX9_rest_21 : decode cX9_rest 21 = .ok (.ireturn, 1) := dgX9_rest_0.2.2.2.2.2.2.2.2.2.2.2.1
theorem dX9_rest_22 : decode cX9_rest 22 = .ok (.aload_n 0, 1) := dgX9_rest_0.2.2.2.2.2.2.2.2.2.2.2.2.1
theorem dX9_rest_23 : decode cX9_rest 23 = .ok (.getfield 67, 3) := dgX9_rest_0.2.2.2.2.2.2.2.2.2.2.2.2.2.1
theorem dX9_rest_26 : decode cX9_rest 26 = .ok (.iload_n 1, 1) := dgX9_rest_0.2.2.2.2.2.2.2.2.2.2.2.2.2.2.1
theorem dX9_rest_27 : decode cX9_rest 27 = .ok (.iaload, 1) := dgX9_rest_0.2.2.2.2.2.2.2.2.2.2.2.2.2.2.2
theorem dgX9_rest_1 : decode cX9_rest 28 = .ok (.iconst 3, 1) ∧ decode cX9_rest 29 = .ok (.if_icmp .eq 6, 3) ∧ decode cX9_rest 32 = .ok (.ldc 139, 2) ∧ decode cX9_rest 34 = .ok (.ireturn, 1) ∧ decode cX9_rest 35 = .ok (.iload_n 2, 1) ∧ decode cX9_rest 36 = .ok (.ifCond .ne 8, 3) ∧ decode cX9_rest 39 = .ok (.ldc 146, 2) ∧ decode cX9_rest 41 = .ok (.goto 20, 3) ∧ decode cX9_rest 44 = .ok (.iload_n 2, 1) ∧ decode cX9_rest 45 = .ok (.iconst (-1), 1) ∧ decode cX9_rest 46 = .ok (.if_icmp .ne 7, 3) ∧ decode cX9_rest 49 = .ok (.iconst 0, 1) ∧ decode cX9_rest 50 = .ok (.goto 11, 3) ∧ decode cX9_rest 53 = .ok (.aload_n 0, 1) ∧ decode cX9_rest 54 = .ok (.getfield 70, 3) ∧ decode cX9_rest 57 = .ok (.iload_n 1, 1) := by decide +kernel
theorem dX9_rest_28 : decode cX9_rest 28 = .ok (.iconst 3, 1) := dgX9_rest_1.1
theorem dX9_rest_29 : decode cX9_rest 29 = .ok (.if_icmp .eq 6, 3) := dgX9_rest_1.2.1
theorem dX9_rest_32 : decode cX9_rest 32 = .ok (.ldc 139, 2) := dgX9_rest_1.2.2.1
theorem dX9_rest_34 : decode cX9_rest 34 = .ok (.ireturn, 1) := dgX9_rest_1.2.2.2.1
theorem dX9_rest_35 : decode cX9_rest 35 = .ok (.iload_n 2, 1) := dgX9_rest_1.2.2.2.2.1
theorem dX9_rest_36 : decode cX9_rest 36 = .ok (.ifCond .ne 8, 3) := dgX9_rest_1.2.2.2.2.2.1
theorem dX9_rest_39 : decode cX9_rest 39 = .ok (.ldc 146, 2) := dgX9_rest_1.2.2.2.2.2.2.1
theorem dX9_rest_41 : decode cX9_rest 41 = .ok (.goto 20, 3) := dgX9_rest_1.2.2.2.2.2.2.2.1
theorem dX9_rest_44 : decode cX9_rest 44 = .ok (.iload_n 2, 1) := dgX9_rest_1.2.2.2.2.2.2.2.2.1
theorem dX9_rest_45 : decode cX9_rest 45 = .ok (.iconst (-1), 1) := dgX9_rest_1.2.2.2.2.2.2.2.2.2.1
theorem dX9_rest_46 : decode cX9_rest 46 = .ok (.if_icmp .ne 7, 3) := dgX9_rest_1.2.2.2.2.2.2.2.2.2.2.1
theorem dX9_rest_49 : decode cX9_rest 49 = .ok (.iconst 0, 1) := dgX9_rest_1.2.2.2.2.2.2.2.2.2.2.2.1
theorem dX9_rest_50 : decode cX9_rest 50 = .ok (.goto 11, 3) := dgX9_rest_1.2.2.2.2.2.2.2.2.2.2.2.2.1
theorem dX9_rest_53 : decode cX9_rest 53 = .ok (.aload_n 0, 1) := dgX9_rest_1.2.2.2.2.2.2.2.2.2.2.2.2.2.1
theorem dX9_rest_54 : decode cX9_rest 54 = .ok (.getfield 70, 3) := dgX9_rest_1.2.2.2.2.2.2.2.2.2.2.2.2.2.2.1
theorem dX9_rest_57 : decode cX9_rest 57 = .ok (.iload_n 1, 1) := dgX9_rest_1.2.2.2.2.2.2.2.2.2.2.2.2.2.2.2
theorem dgX9_rest_2 : decode cX9_rest 58 = .ok (.iaload, 1) ∧ decode cX9_rest 59 = .ok (.iload_n 2, 1) ∧ decode cX9_rest 60 = .ok (.irem, 1) ∧ decode cX9_rest 61 = .ok (.ireturn, 1) := by decide +kernel
theorem dX9_rest_58 : decode cX9_rest 58 = .ok (.iaload, 1) := dgX9_rest_2.1
theorem dX9_rest_59 : decode cX9_rest 59 = .ok (.iload_n 2, 1) := dgX9_rest_2.2.1
theorem dX9_rest_60 : decode cX9_rest 60 = .ok (.irem, 1) := dgX9_rest_2.2.2.1
theorem dX9_rest_61 : decode cX9_rest 61 = .ok (.ireturn, 1) := dgX9_rest_2.2.2.2
abbrev pX9_rest : List Nat := [0, 10, 22, 35, 44, 53, 61]
def bX9_rest_0 (cal : ab_F) : ab_K := o_iload 1 <| o_callS cal 207 1 <| o_if (fun x => decide (¬ x = 0)) 1 <| o_push (.int (-1000000001)) <| o_ret (some .int)
def bX9_rest_1 (cal : ab_F) : ab_K := o_aload 0 <| o_getf 8 29 <| o_iload 1 <| o_iald 0 <| o_if (fun x => decide (¬ x = 0)) 2 <| o_push (.int (-1000000011)) <| o_ret (some .int)
def bX9_rest_2 (cal : ab_F) : ab_K := o_aload 0 <| o_getf 8 29 <| o_iload 1 <| o_iald 0 <| o_push (.int 3) <| o_cmp (fun x y => decide (x = y)) 3 <| o_push (.int (-1000000012)) <| o_ret (some .int)
def bX9_rest_3 (cal : ab_F) : ab_K := o_iload 2 <| o_if (fun x => decide (¬ x = 0)) 4 <| o_push (.int (-1000000002)) <| o_goto 6
def bX9_rest_4 (cal : ab_F) : ab_K := o_iload 2 <| o_push (.int (-1)) <| o_cmp (fun x y => decide (¬ x = y)) 5 <| o_push (.int 0) <| o_goto 6
def bX9_rest_5 (cal : ab_F) : ab_K := o_aload 0 <| o_getf 8 30 <| o_iload 1 <| o_iald 0 <| o_iload 2 <| o_div (fun x y => x - x / y * y) <| o_goto 6
def bX9_rest_6 (cal : ab_F) : ab_K := o_ret (some .int)
def bX9_rest (cal : ab_F) : List ab_K := [bX9_rest_0 cal, bX9_rest_1 cal, bX9_rest_2 cal, bX9_rest_3 cal, bX9_rest_4 cal, bX9_rest_5 cal, bX9_rest_6 cal]
set_option maxRecDepth 100000 in
theorem sX9_rest_0 {G : ab_G} {xs : List Int32} {d : Nat} {cal : ab_F} (hcs : ab_CS G (ab_Z G xs) ab_Mf cal d) : ab_Sd G (ab_Z G xs) (d + 1) (ab_mY mX9_rest pX9_rest) 0 (bX9_rest_0 cal) :=
  sn_iload_n dX9_rest_0 rfl <| sq_callS mt_207 hcs dX9_rest_1 w_1440 w_1441 w_63 w_1442 hy_207 hm_207 <| sn_if_ne (tg := 10) dX9_rest_4 rfl rfl <| sn_ldc dX9_rest_7 w_1109 <| sn_ret dX9_rest_9 ab_ri_int
set_option maxRecDepth 100000 in
theorem sX9_rest_1 {G : ab_G} {xs : List Int32} {d : Nat} {cal : ab_F} (hcs : ab_CS G (ab_Z G xs) ab_Mf cal d) : ab_Sd G (ab_Z G xs) (d + 1) (ab_mY mX9_rest pX9_rest) 10 (bX9_rest_1 cal) :=
  sn_aload_n dX9_rest_10 rfl <| sn_getf dX9_rest_11 rfl hinX9 (by decide) w_1020 <| sn_iload_n dX9_rest_14 rfl <| sn_iald dX9_rest_15 rfl <| sn_if_ne (tg := 22) dX9_rest_16 rfl rfl <| sn_ldc dX9_rest_19 w_1332 <| sn_ret dX9_rest_21 ab_ri_int
set_option maxRecDepth 100000 in
theorem sX9_rest_2 {G : ab_G} {xs : List Int32} {d : Nat} {cal : ab_F} (hcs : ab_CS G (ab_Z G xs) ab_Mf cal d) : ab_Sd G (ab_Z G xs) (d + 1) (ab_mY mX9_rest pX9_rest) 22 (bX9_rest_2 cal) :=
  sn_aload_n dX9_rest_22 rfl <| sn_getf dX9_rest_23 rfl hinX9 (by decide) w_1020 <| sn_iload_n dX9_rest_26 rfl <| sn_iald dX9_rest_27 rfl <| sn_iconst dX9_rest_28 rfl <| sn_cmp_eq (tg := 35) dX9_rest_29 rfl rfl <| sn_ldc dX9_rest_32 w_1178 <| sn_ret dX9_rest_34 ab_ri_int
set_option maxRecDepth 100000 in
theorem sX9_rest_3 {G : ab_G} {xs : List Int32} {d : Nat} {cal : ab_F} (hcs : ab_CS G (ab_Z G xs) ab_Mf cal d) : ab_Sd G (ab_Z G xs) (d + 1) (ab_mY mX9_rest pX9_rest) 35 (bX9_rest_3 cal) :=
  sn_iload_n dX9_rest_35 rfl <| sn_if_ne (tg := 44) dX9_rest_36 rfl rfl <| sn_ldc dX9_rest_39 w_1195 <| sn_goto (tg := 61) dX9_rest_41 rfl rfl
set_option maxRecDepth 100000 in
theorem sX9_rest_4 {G : ab_G} {xs : List Int32} {d : Nat} {cal : ab_F} (hcs : ab_CS G (ab_Z G xs) ab_Mf cal d) : ab_Sd G (ab_Z G xs) (d + 1) (ab_mY mX9_rest pX9_rest) 44 (bX9_rest_4 cal) :=
  sn_iload_n dX9_rest_44 rfl <| sn_iconst dX9_rest_45 rfl <| sn_cmp_ne (tg := 53) dX9_rest_46 rfl rfl <| sn_iconst dX9_rest_49 rfl <| sn_goto (tg := 61) dX9_rest_50 rfl rfl
set_option maxRecDepth 100000 in
theorem sX9_rest_5 {G : ab_G} {xs : List Int32} {d : Nat} {cal : ab_F} (hcs : ab_CS G (ab_Z G xs) ab_Mf cal d) : ab_Sd G (ab_Z G xs) (d + 1) (ab_mY mX9_rest pX9_rest) 53 (bX9_rest_5 cal) :=
  sn_aload_n dX9_rest_53 rfl <| sn_getf dX9_rest_54 rfl hinX9 (by decide) w_1021 <| sn_iload_n dX9_rest_57 rfl <| sn_iald dX9_rest_58 rfl <| sn_iload_n dX9_rest_59 rfl <| sn_irem dX9_rest_60 <| sn_next rfl
set_option maxRecDepth 100000 in
theorem sX9_rest_6 {G : ab_G} {xs : List Int32} {d : Nat} {cal : ab_F} (hcs : ab_CS G (ab_Z G xs) ab_Mf cal d) : ab_Sd G (ab_Z G xs) (d + 1) (ab_mY mX9_rest pX9_rest) 61 (bX9_rest_6 cal) :=
  sn_ret dX9_rest_61 ab_ri_int
theorem sX9_rest {G : ab_G} {xs : List Int32} {d : Nat} {cal : ab_F} (hcs : ab_CS G (ab_Z G xs) ab_Mf cal d) : ab_BS G (ab_Z G xs) (d + 1) (ab_mY mX9_rest pX9_rest) pX9_rest (bX9_rest cal) := ⟨sX9_rest_0 hcs, sX9_rest_1 hcs, sX9_rest_2 hcs, sX9_rest_3 hcs, sX9_rest_4 hcs, sX9_rest_5 hcs, sX9_rest_6 hcs, trivial⟩
theorem dgX9_tell_0 : decode cX9_tell 0 = .ok (.aload_n 0, 1) ∧ decode cX9_tell 1 = .ok (.getfield 287, 3) ∧ decode cX9_tell 4 = .ok (.bipush 60, 2) ∧ decode cX9_tell 6 = .ok (.if_icmp .ne 6, 3) ∧ decode cX9_tell 9 = .ok (.ldc 91, 2) ∧ decode cX9_tell 11 = .ok (.ireturn, 1) ∧ decode cX9_tell 12 = .ok (.aload_n 0, 1) ∧ decode cX9_tell 13 = .ok (.getfield 82, 3) ∧ decode cX9_tell 16 = .ok (.aload_n 0, 1) ∧ decode cX9_tell 17 = .ok (.getfield 287, 3) ∧ decode cX9_tell 20 = .ok (.iload_n 1, 1) ∧ decode cX9_tell 21 = .ok (.iastore, 1) ∧ decode cX9_tell 22 = .ok (.aload_n 0, 1) ∧ decode cX9_tell 23 = .ok (.dup, 1) ∧ decode cX9_tell 24 = .ok (.getfield 287, 3) ∧ decode cX9_tell 27 = .ok (.iconst 1, 1) := by decide +kernel
theorem dX9_tell_0 : decode cX9_tell 0 = .ok (.aload_n 0, 1) := dgX9_tell_0.1
theorem dX9_tell_1 : decode cX9_tell 1 = .ok (.getfield 287, 3) := dgX9_tell_0.2.1
theorem dX9_tell_4 : decode cX9_tell 4 = .ok (.bipush 60, 2) := dgX9_tell_0.2.2.1
theorem dX9_tell_6 : decode cX9_tell 6 = .ok (.if_icmp .ne 6, 3) := dgX9_tell_0.2.2.2.1
theorem dX9_tell_9 : decode cX9_tell 9 = .ok (.ldc 91, 2) := dgX9_tell_0.2.2.2.2.1
theorem dX9_tell_11 : decode cX9_tell 11 = .ok (.ireturn, 1) := dgX9_tell_0.2.2.2.2.2.1
theorem dX9_tell_12 : decode cX9_tell 12 = .ok (.aload_n 0, 1) := dgX9_tell_0.2.2.2.2.2.2.1
theorem dX9_tell_13 : decode cX9_tell 13 = .ok (.getfield 82, 3) := dgX9_tell_0.2.2.2.2.2.2.2.1
theorem dX9_tell_16 : decode cX9_tell 16 = .ok (.aload_n 0, 1) := dgX9_tell_0.2.2.2.2.2.2.2.2.1
theorem dX9_tell_17 : decode cX9_tell 17 = .ok (.getfield 287, 3) := dgX9_tell_0.2.2.2.2.2.2.2.2.2.1
theorem dX9_tell_20 : decode cX9_tell 20 = .ok (.iload_n 1, 1) := dgX9_tell_0.2.2.2.2.2.2.2.2.2.2.1
theorem dX9_tell_21 : decode cX9_tell 21 = .ok (.iastore, 1) := dgX9_tell_0.2.2.2.2.2.2.2.2.2.2.2.1
theorem dX9_tell_22 : decode cX9_tell 22 = .ok (.aload_n 0, 1) := dgX9_tell_0.2.2.2.2.2.2.2.2.2.2.2.2.1
theorem dX9_tell_23 : decode cX9_tell 23 = .ok (.dup, 1) := dgX9_tell_0.2.2.2.2.2.2.2.2.2.2.2.2.2.1
theorem dX9_tell_24 : decode cX9_tell 24 = .ok (.getfield 287, 3) := dgX9_tell_0.2.2.2.2.2.2.2.2.2.2.2.2.2.2.1
theorem dX9_tell_27 : decode cX9_tell 27 = .ok (.iconst 1, 1) := dgX9_tell_0.2.2.2.2.2.2.2.2.2.2.2.2.2.2.2
theorem dgX9_tell_1 : decode cX9_tell 28 = .ok (.iadd, 1) ∧ decode cX9_tell 29 = .ok (.putfield 287, 3) ∧ decode cX9_tell 32 = .ok (.aload_n 0, 1) ∧ decode cX9_tell 33 = .ok (.getfield 287, 3) ∧ decode cX9_tell 36 = .ok (.ireturn, 1) := by decide +kernel
theorem dX9_tell_28 : decode cX9_tell 28 = .ok (.iadd, 1) := dgX9_tell_1.1
theorem dX9_tell_29 : decode cX9_tell 29 = .ok (.putfield 287, 3) := dgX9_tell_1.2.1
theorem dX9_tell_32 : decode cX9_tell 32 = .ok (.aload_n 0, 1) := dgX9_tell_1.2.2.1
theorem dX9_tell_33 : decode cX9_tell 33 = .ok (.getfield 287, 3) := dgX9_tell_1.2.2.2.1
theorem dX9_tell_36 : decode cX9_tell 36 = .ok (.ireturn, 1) := dgX9_tell_1.2.2.2.2
abbrev pX9_tell : List Nat := [0, 12]
def bX9_tell_0 (cal : ab_F) : ab_K := o_aload 0 <| o_getf 8 35 <| o_push (.int 60) <| o_cmp (fun x y => decide (¬ x = y)) 1 <| o_push (.int (-1000000003)) <| o_ret (some .int)
def bX9_tell_1 (cal : ab_F) : ab_K := o_aload 0 <| o_getf 8 34 <| o_aload 0 <| o_getf 8 35 <| o_iload 1 <| o_iast 0 (fun x => x) <| o_aload 0 <| o_dup <| o_getf 8 35 <| o_push (.int 1) <| o_bin (fun x y => x + y) <| o_putI 8 35 <| o_aload 0 <| o_getf 8 35 <| o_ret (some .int)
def bX9_tell (cal : ab_F) : List ab_K := [bX9_tell_0 cal, bX9_tell_1 cal]
set_option maxRecDepth 100000 in
theorem sX9_tell_0 {G : ab_G} {xs : List Int32} {d : Nat} {cal : ab_F} (hcs : ab_CS G (ab_Z G xs) ab_Mf cal d) : ab_Sd G (ab_Z G xs) (d + 1) (ab_mY mX9_tell pX9_tell) 0 (bX9_tell_0 cal) :=
  sn_aload_n dX9_tell_0 rfl <| sn_getf dX9_tell_1 rfl hinX9 (by decide) w_1026 <| sn_bipush dX9_tell_4 rfl <| sn_cmp_ne (tg := 12) dX9_tell_6 rfl rfl <| sn_ldc dX9_tell_9 w_1110 <| sn_ret dX9_tell_11 ab_ri_int
set_option maxRecDepth 100000 in
theorem sX9_tell_1 {G : ab_G} {xs : List Int32} {d : Nat} {cal : ab_F} (hcs : ab_CS G (ab_Z G xs) ab_Mf cal d) : ab_Sd G (ab_Z G xs) (d + 1) (ab_mY mX9_tell pX9_tell) 12 (bX9_tell_1 cal) :=
  sn_aload_n dX9_tell_12 rfl <| sn_getf dX9_tell_13 rfl hinX9 (by decide) w_1025 <| sn_aload_n dX9_tell_16 rfl <| sn_getf dX9_tell_17 rfl hinX9 (by decide) w_1026 <| sn_iload_n dX9_tell_20 rfl <| sn_iast dX9_tell_21 rfl rfl <| sn_aload_n dX9_tell_22 rfl <| sn_dup dX9_tell_23 <| sn_getf dX9_tell_24 rfl hinX9 (by decide) w_1026 <| sn_iconst dX9_tell_27 rfl <| sn_iadd dX9_tell_28 <| sn_putI tyX9 tyX9_ok nmX9 dX9_tell_29 rfl hinX9 (by decide) w_1026 (Or.inl rfl) (tyX9_ok 35 (by decide)) <| sn_aload_n dX9_tell_32 rfl <| sn_getf dX9_tell_33 rfl hinX9 (by decide) w_1026 <| sn_ret dX9_tell_36 ab_ri_int
theorem sX9_tell {G : ab_G} {xs : List Int32} {d : Nat} {cal : ab_F} (hcs : ab_CS G (ab_Z G xs) ab_Mf cal d) : ab_BS G (ab_Z G xs) (d + 1) (ab_mY mX9_tell pX9_tell) pX9_tell (bX9_tell cal) := ⟨sX9_tell_0 hcs, sX9_tell_1 hcs, trivial⟩
theorem dgX9_check_0 : decode cX9_check 0 = .ok (.aload_n 0, 1) ∧ decode cX9_check 1 = .ok (.getfield 287, 3) ∧ decode cX9_check 4 = .ok (.istore_n 2, 1) ∧ decode cX9_check 5 = .ok (.aload_n 0, 1) ∧ decode cX9_check 6 = .ok (.iconst 0, 1) ∧ decode cX9_check 7 = .ok (.putfield 287, 3) ∧ decode cX9_check 10 = .ok (.iload_n 1, 1) ∧ decode cX9_check 11 = .ok (.iconst 1, 1) ∧ decode cX9_check 12 = .ok (.bipush 30, 2) ∧ decode cX9_check 14 = .ok (.invokestatic 86, 3) ∧ decode cX9_check 17 = .ok (.ifCond .ne 6, 3) ∧ decode cX9_check 20 = .ok (.ldc 90, 2) ∧ decode cX9_check 22 = .ok (.ireturn, 1) ∧ decode cX9_check 23 = .ok (.aload_n 0, 1) ∧ decode cX9_check 24 = .ok (.getfield 290, 3) ∧ decode cX9_check 27 = .ok (.ifCond .ne 6, 3) := by decide +kernel
theorem dX9_check_0 : decode cX9_check 0 = .ok (.aload_n 0, 1) := dgX9_check_0.1
theorem dX9_check_1 : decode cX9_check 1 = .ok (.getfield 287, 3) := dgX9_check_0.2.1
theorem dX9_check_4 : decode cX9_check 4 = .ok (.istore_n 2, 1) := dgX9_check_0.2.2.1
theorem dX9_check_5 : decode cX9_check 5 = .ok (.aload_n 0, 1) := dgX9_check_0.2.2.2.1
theorem dX9_check_6 : decode cX9_check 6 = .ok (.iconst 0, 1) := dgX9_check_0.2.2.2.2.1
theorem dX9_check_7 : decode cX9_check 7 = .ok (.putfield 287, 3) := dgX9_check_0.2.2.2.2.2.1
theorem dX9_check_10 : decode cX9_check 10 = .ok (.iload_n 1, 1) := dgX9_check_0.2.2.2.2.2.2.1
theorem dX9_check_11 : decode cX9_check 11 = .ok (.iconst 1, 1) := dgX9_check_0.2.2.2.2.2.2.2.1
theorem dX9_check_12 : decode cX9_check 12 = .ok (.bipush 30, 2) := dgX9_check_0.2.2.2.2.2.2.2.2.1
theorem dX9_check_14 : decode cX9_check 14 = .ok (.invokestatic 86, 3) := dgX9_check_0.2.2.2.2.2.2.2.2.2.1
theorem dX9_check_17 : decode cX9_check 17 = .ok (.ifCond .ne 6, 3) := dgX9_check_0.2.2.2.2.2.2.2.2.2.2.1
theorem dX9_check_20 : decode cX9_check 20 = .ok (.ldc 90, 2) := dgX9_check_0.2.2.2.2.2.2.2.2.2.2.2.1
theorem dX9_check_22 : decode cX9_check 22 = .ok (.ireturn, 1) := dgX9_check_0.2.2.2.2.2.2.2.2.2.2.2.2.1
theorem dX9_check_23 : decode cX9_check 23 = .ok (.aload_n 0, 1) := dgX9_check_0.2.2.2.2.2.2.2.2.2.2.2.2.2.1
theorem dX9_check_24 : decode cX9_check 24 = .ok (.getfield 290, 3) := dgX9_check_0.2.2.2.2.2.2.2.2.2.2.2.2.2.2.1
theorem dX9_check_27 : decode cX9_check 27 = .ok (.ifCond .ne 6, 3) := dgX9_check_0.2.2.2.2.2.2.2.2.2.2.2.2.2.2.2
theorem dgX9_check_1 : decode cX9_check 30 = .ok (.ldc 146, 2) ∧ decode cX9_check 32 = .ok (.ireturn, 1) ∧ decode cX9_check 33 = .ok (.aload_n 0, 1) ∧ decode cX9_check 34 = .ok (.getfield 9, 3) ∧ decode cX9_check 37 = .ok (.aload_n 0, 1) ∧ decode cX9_check 38 = .ok (.getfield 16, 3) ∧ decode cX9_check 41 = .ok (.invokestatic 294, 3) ∧ decode cX9_check 44 = .ok (.aload_n 0, 1) ∧ decode cX9_check 45 = .ok (.getfield 13, 3) ∧ decode cX9_check 48 = .ok (.aload_n 0, 1) ∧ decode cX9_check 49 = .ok (.getfield 9, 3) ∧ decode cX9_check 52 = .ok (.invokestatic 294, 3) ∧ decode cX9_check 55 = .ok (.iconst 2, 1) ∧ decode cX9_check 56 = .ok (.sipush 9999, 3) ∧ decode cX9_check 59 = .ok (.aload_n 0, 1) ∧ decode cX9_check 60 = .ok (.getfield 9, 3) := by decide +kernel
theorem dX9_check_30 : decode cX9_check 30 = .ok (.ldc 146, 2) := dgX9_check_1.1
theorem dX9_check_32 : decode cX9_check 32 = .ok (.ireturn, 1) := dgX9_check_1.2.1
theorem dX9_check_33 : decode cX9_check 33 = .ok (.aload_n 0, 1) := dgX9_check_1.2.2.1
theorem dX9_check_34 : decode cX9_check 34 = .ok (.getfield 9, 3) := dgX9_check_1.2.2.2.1
theorem dX9_check_37 : decode cX9_check 37 = .ok (.aload_n 0, 1) := dgX9_check_1.2.2.2.2.1
theorem dX9_check_38 : decode cX9_check 38 = .ok (.getfield 16, 3) := dgX9_check_1.2.2.2.2.2.1
theorem dX9_check_41 : decode cX9_check 41 = .ok (.invokestatic 294, 3) := dgX9_check_1.2.2.2.2.2.2.1
theorem dX9_check_44 : decode cX9_check 44 = .ok (.aload_n 0, 1) := dgX9_check_1.2.2.2.2.2.2.2.1
theorem dX9_check_45 : decode cX9_check 45 = .ok (.getfield 13, 3) := dgX9_check_1.2.2.2.2.2.2.2.2.1
theorem dX9_check_48 : decode cX9_check 48 = .ok (.aload_n 0, 1) := dgX9_check_1.2.2.2.2.2.2.2.2.2.1
theorem dX9_check_49 : decode cX9_check 49 = .ok (.getfield 9, 3) := dgX9_check_1.2.2.2.2.2.2.2.2.2.2.1
theorem dX9_check_52 : decode cX9_check 52 = .ok (.invokestatic 294, 3) := dgX9_check_1.2.2.2.2.2.2.2.2.2.2.2.1
theorem dX9_check_55 : decode cX9_check 55 = .ok (.iconst 2, 1) := dgX9_check_1.2.2.2.2.2.2.2.2.2.2.2.2.1
theorem dX9_check_56 : decode cX9_check 56 = .ok (.sipush 9999, 3) := dgX9_check_1.2.2.2.2.2.2.2.2.2.2.2.2.2.1
theorem dX9_check_59 : decode cX9_check 59 = .ok (.aload_n 0, 1) := dgX9_check_1.2.2.2.2.2.2.2.2.2.2.2.2.2.2.1
theorem dX9_check_60 : decode cX9_check 60 = .ok (.getfield 9, 3) := dgX9_check_1.2.2.2.2.2.2.2.2.2.2.2.2.2.2.2
theorem dgX9_check_2 : decode cX9_check 63 = .ok (.iconst 2, 1) ∧ decode cX9_check 64 = .ok (.iaload, 1) ∧ decode cX9_check 65 = .ok (.isub, 1) ∧ decode cX9_check 66 = .ok (.iconst 0, 1) ∧ decode cX9_check 67 = .ok (.iload_n 1, 1) ∧ decode cX9_check 68 = .ok (.invokestatic 117, 3) ∧ decode cX9_check 71 = .ok (.imul, 1) ∧ decode cX9_check 72 = .ok (.istore_n 3, 1) ∧ decode cX9_check 73 = .ok (.iconst 0, 1) ∧ decode cX9_check 74 = .ok (.istore 4, 2) ∧ decode cX9_check 76 = .ok (.iconst 0, 1) ∧ decode cX9_check 77 = .ok (.istore 5, 2) ∧ decode cX9_check 79 = .ok (.iconst 2, 1) ∧ decode cX9_check 80 = .ok (.iload 5, 2) ∧ decode cX9_check 82 = .ok (.imul, 1) ∧ decode cX9_check 83 = .ok (.iload_n 3, 1) := by decide +kernel
theorem dX9_check_63 : decode cX9_check 63 = .ok (.iconst 2, 1) := dgX9_check_2.1
theorem dX9_check_64 : decode cX9_check 64 = .ok (.iaload, 1) := dgX9_check_2.2.1
theorem dX9_check_65 : decode cX9_check 65 = .ok (.isub, 1) := dgX9_check_2.2.2.1
theorem dX9_check_66 : decode cX9_check 66 = .ok (.iconst 0, 1) := dgX9_check_2.2.2.2.1
theorem dX9_check_67 : decode cX9_check 67 = .ok (.iload_n 1, 1) := dgX9_check_2.2.2.2.2.1
theorem dX9_check_68 : decode cX9_check 68 = .ok (.invokestatic 117, 3) := dgX9_check_2.2.2.2.2.2.1
theorem dX9_check_71 : decode cX9_check 71 = .ok (.imul, 1) := dgX9_check_2.2.2.2.2.2.2.1
theorem dX9_check_72 : decode cX9_check 72 = .ok (.istore_n 3, 1) := dgX9_check_2.2.2.2.2.2.2.2.1
theorem dX9_check_73 : decode cX9_check 73 = .ok (.iconst 0, 1) := dgX9_check_2.2.2.2.2.2.2.2.2.1
theorem dX9_check_74 : decode cX9_check 74 = .ok (.istore 4, 2) := dgX9_check_2.2.2.2.2.2.2.2.2.2.1
theorem dX9_check_76 : decode cX9_check 76 = .ok (.iconst 0, 1) := dgX9_check_2.2.2.2.2.2.2.2.2.2.2.1
theorem dX9_check_77 : decode cX9_check 77 = .ok (.istore 5, 2) := dgX9_check_2.2.2.2.2.2.2.2.2.2.2.2.1
theorem dX9_check_79 : decode cX9_check 79 = .ok (.iconst 2, 1) := dgX9_check_2.2.2.2.2.2.2.2.2.2.2.2.2.1
theorem dX9_check_80 : decode cX9_check 80 = .ok (.iload 5, 2) := dgX9_check_2.2.2.2.2.2.2.2.2.2.2.2.2.2.1
theorem dX9_check_82 : decode cX9_check 82 = .ok (.imul, 1) := dgX9_check_2.2.2.2.2.2.2.2.2.2.2.2.2.2.2.1
theorem dX9_check_83 : decode cX9_check 83 = .ok (.iload_n 3, 1) := dgX9_check_2.2.2.2.2.2.2.2.2.2.2.2.2.2.2.2
theorem dgX9_check_3 : decode cX9_check 84 = .ok (.if_icmp .ge 93, 3) ∧ decode cX9_check 87 = .ok (.iload 4, 2) ∧ decode cX9_check 89 = .ok (.iconst 2, 1) ∧ decode cX9_check 90 = .ok (.iload 5, 2) ∧ decode cX9_check 92 = .ok (.imul, 1) ∧ decode cX9_check 93 = .ok (.if_icmp .ne 84, 3) ∧ decode cX9_check 96 = .ok (.aload_n 0, 1) ∧ decode cX9_check 97 = .ok (.invokevirtual 156, 3) ∧ decode cX9_check 100 = .ok (.iload 4, 2) ∧ decode cX9_check 102 = .ok (.iload 4, 2) ∧ decode cX9_check 104 = .ok (.iload_n 2, 1) ∧ decode cX9_check 105 = .ok (.if_icmp .ge 21, 3) ∧ decode cX9_check 108 = .ok (.aload_n 0, 1) ∧ decode cX9_check 109 = .ok (.getfield 82, 3) ∧ decode cX9_check 112 = .ok (.iload 4, 2) ∧ decode cX9_check 114 = .ok (.iaload, 1) := by decide +kernel
theorem dX9_check_84 : decode cX9_check 84 = .ok (.if_icmp .ge 93, 3) := dgX9_check_3.1
theorem dX9_check_87 : decode cX9_check 87 = .ok (.iload 4, 2) := dgX9_check_3.2.1
theorem dX9_check_89 : decode cX9_check 89 = .ok (.iconst 2, 1) := dgX9_check_3.2.2.1
theorem dX9_check_90 : decode cX9_check 90 = .ok (.iload 5, 2) := dgX9_check_3.2.2.2.1
theorem dX9_check_92 : decode cX9_check 92 = .ok (.imul, 1) := dgX9_check_3.2.2.2.2.1
theorem dX9_check_93 : decode cX9_check 93 = .ok (.if_icmp .ne 84, 3) := dgX9_check_3.2.2.2.2.2.1
theorem dX9_check_96 : decode cX9_check 96 = .ok (.aload_n 0, 1) := dgX9_check_3.2.2.2.2.2.2.1
theorem dX9_check_97 : decode cX9_check 97 = .ok (.invokevirtual 156, 3) := dgX9_check_3.2.2.2.2.2.2.2.1
theorem dX9_check_100 : decode cX9_check 100 = .ok (.iload 4, 2) := dgX9_check_3.2.2.2.2.2.2.2.2.1
theorem dX9_check_102 : decode cX9_check 102 = .ok (.iload 4, 2) := dgX9_check_3.2.2.2.2.2.2.2.2.2.1
theorem dX9_check_104 : decode cX9_check 104 = .ok (.iload_n 2, 1) := dgX9_check_3.2.2.2.2.2.2.2.2.2.2.1
theorem dX9_check_105 : decode cX9_check 105 = .ok (.if_icmp .ge 21, 3) := dgX9_check_3.2.2.2.2.2.2.2.2.2.2.2.1
theorem dX9_check_108 : decode cX9_check 108 = .ok (.aload_n 0, 1) := dgX9_check_3.2.2.2.2.2.2.2.2.2.2.2.2.1
theorem dX9_check_109 : decode cX9_check 109 = .ok (.getfield 82, 3) := dgX9_check_3.2.2.2.2.2.2.2.2.2.2.2.2.2.1
theorem dX9_check_112 : decode cX9_check 112 = .ok (.iload 4, 2) := dgX9_check_3.2.2.2.2.2.2.2.2.2.2.2.2.2.2.1
theorem dX9_check_114 : decode cX9_check 114 = .ok (.iaload, 1) := dgX9_check_3.2.2.2.2.2.2.2.2.2.2.2.2.2.2.2
theorem dgX9_check_4 : decode cX9_check 115 = .ok (.aload_n 0, 1) ∧ decode cX9_check 116 = .ok (.invokevirtual 165, 3) ∧ decode cX9_check 119 = .ok (.if_icmp .ne 7, 3) ∧ decode cX9_check 122 = .ok (.iconst 1, 1) ∧ decode cX9_check 123 = .ok (.goto 4, 3) ∧ decode cX9_check 126 = .ok (.iconst 0, 1) ∧ decode cX9_check 127 = .ok (.iadd, 1) ∧ decode cX9_check 128 = .ok (.istore 4, 2) ∧ decode cX9_check 130 = .ok (.iload 4, 2) ∧ decode cX9_check 132 = .ok (.iload 4, 2) ∧ decode cX9_check 134 = .ok (.iconst 2, 1) ∧ decode cX9_check 135 = .ok (.iload 5, 2) ∧ decode cX9_check 137 = .ok (.imul, 1) ∧ decode cX9_check 138 = .ok (.iconst 1, 1) ∧ decode cX9_check 139 = .ok (.iadd, 1) ∧ decode cX9_check 140 = .ok (.if_icmp .ne 27, 3) := by decide +kernel
theorem dX9_check_115 : decode cX9_check 115 = .ok (.aload_n 0, 1) := dgX9_check_4.1
theorem dX9_check_116 : decode cX9_check 116 = .ok (.invokevirtual 165, 3) := dgX9_check_4.2.1
theorem dX9_check_119 : decode cX9_check 119 = .ok (.if_icmp .ne 7, 3) := dgX9_check_4.2.2.1
theorem dX9_check_122 : decode cX9_check 122 = .ok (.iconst 1, 1) := dgX9_check_4.2.2.2.1
theorem dX9_check_123 : decode cX9_check 123 = .ok (.goto 4, 3) := dgX9_check_4.2.2.2.2.1
theorem dX9_check_126 : decode cX9_check 126 = .ok (.iconst 0, 1) := dgX9_check_4.2.2.2.2.2.1
theorem dX9_check_127 : decode cX9_check 127 = .ok (.iadd, 1) := dgX9_check_4.2.2.2.2.2.2.1
theorem dX9_check_128 : decode cX9_check 128 = .ok (.istore 4, 2) := dgX9_check_4.2.2.2.2.2.2.2.1
theorem dX9_check_130 : decode cX9_check 130 = .ok (.iload 4, 2) := dgX9_check_4.2.2.2.2.2.2.2.2.1
theorem dX9_check_132 : decode cX9_check 132 = .ok (.iload 4, 2) := dgX9_check_4.2.2.2.2.2.2.2.2.2.1
theorem dX9_check_134 : decode cX9_check 134 = .ok (.iconst 2, 1) := dgX9_check_4.2.2.2.2.2.2.2.2.2.2.1
theorem dX9_check_135 : decode cX9_check 135 = .ok (.iload 5, 2) := dgX9_check_4.2.2.2.2.2.2.2.2.2.2.2.1
theorem dX9_check_137 : decode cX9_check 137 = .ok (.imul, 1) := dgX9_check_4.2.2.2.2.2.2.2.2.2.2.2.2.1
theorem dX9_check_138 : decode cX9_check 138 = .ok (.iconst 1, 1) := dgX9_check_4.2.2.2.2.2.2.2.2.2.2.2.2.2.1
theorem dX9_check_139 : decode cX9_check 139 = .ok (.iadd, 1) := dgX9_check_4.2.2.2.2.2.2.2.2.2.2.2.2.2.2.1
theorem dX9_check_140 : decode cX9_check 140 = .ok (.if_icmp .ne 27, 3) := dgX9_check_4.2.2.2.2.2.2.2.2.2.2.2.2.2.2.2
theorem dgX9_check_5 : decode cX9_check 143 = .ok (.iload 4, 2) ∧ decode cX9_check 145 = .ok (.iload_n 2, 1) ∧ decode cX9_check 146 = .ok (.if_icmp .ge 21, 3) ∧ decode cX9_check 149 = .ok (.aload_n 0, 1) ∧ decode cX9_check 150 = .ok (.getfield 82, 3) ∧ decode cX9_check 153 = .ok (.iload 4, 2) ∧ decode cX9_check 155 = .ok (.iaload, 1) ∧ decode cX9_check 156 = .ok (.aload_n 0, 1) ∧ decode cX9_check 157 = .ok (.invokevirtual 168, 3) ∧ decode cX9_check 160 = .ok (.if_icmp .ne 7, 3) ∧ decode cX9_check 163 = .ok (.iconst 1, 1) ∧ decode cX9_check 164 = .ok (.goto 4, 3) ∧ decode cX9_check 167 = .ok (.iconst 0, 1) ∧ decode cX9_check 168 = .ok (.iadd, 1) ∧ decode cX9_check 169 = .ok (.istore 4, 2) ∧ decode cX9_check 171 = .ok (.iinc 5 1, 3) := by decide +kernel
theorem dX9_check_143 : decode cX9_check 143 = .ok (.iload 4, 2) := dgX9_check_5.1
theorem dX9_check_145 : decode cX9_check 145 = .ok (.iload_n 2, 1) := dgX9_check_5.2.1
theorem dX9_check_146 : decode cX9_check 146 = .ok (.if_icmp .ge 21, 3) := dgX9_check_5.2.2.1
theorem dX9_check_149 : decode cX9_check 149 = .ok (.aload_n 0, 1) := dgX9_check_5.2.2.2.1
theorem dX9_check_150 : decode cX9_check 150 = .ok (.getfield 82, 3) := dgX9_check_5.2.2.2.2.1
theorem dX9_check_153 : decode cX9_check 153 = .ok (.iload 4, 2) := dgX9_check_5.2.2.2.2.2.1
theorem dX9_check_155 : decode cX9_check 155 = .ok (.iaload, 1) := dgX9_check_5.2.2.2.2.2.2.1
theorem dX9_check_156 : decode cX9_check 156 = .ok (.aload_n 0, 1) := dgX9_check_5.2.2.2.2.2.2.2.1
theorem dX9_check_157 : decode cX9_check 157 = .ok (.invokevirtual 168, 3) := dgX9_check_5.2.2.2.2.2.2.2.2.1
theorem dX9_check_160 : decode cX9_check 160 = .ok (.if_icmp .ne 7, 3) := dgX9_check_5.2.2.2.2.2.2.2.2.2.1
theorem dX9_check_163 : decode cX9_check 163 = .ok (.iconst 1, 1) := dgX9_check_5.2.2.2.2.2.2.2.2.2.2.1
theorem dX9_check_164 : decode cX9_check 164 = .ok (.goto 4, 3) := dgX9_check_5.2.2.2.2.2.2.2.2.2.2.2.1
theorem dX9_check_167 : decode cX9_check 167 = .ok (.iconst 0, 1) := dgX9_check_5.2.2.2.2.2.2.2.2.2.2.2.2.1
theorem dX9_check_168 : decode cX9_check 168 = .ok (.iadd, 1) := dgX9_check_5.2.2.2.2.2.2.2.2.2.2.2.2.2.1
theorem dX9_check_169 : decode cX9_check 169 = .ok (.istore 4, 2) := dgX9_check_5.2.2.2.2.2.2.2.2.2.2.2.2.2.2.1
theorem dX9_check_171 : decode cX9_check 171 = .ok (.iinc 5 1, 3) := dgX9_check_5.2.2.2.2.2.2.2.2.2.2.2.2.2.2.2
theorem dgX9_check_6 : decode cX9_check 174 = .ok (.goto (-95), 3) ∧ decode cX9_check 177 = .ok (.aload_n 0, 1) ∧ decode cX9_check 178 = .ok (.getfield 16, 3) ∧ decode cX9_check 181 = .ok (.aload_n 0, 1) ∧ decode cX9_check 182 = .ok (.getfield 9, 3) ∧ decode cX9_check 185 = .ok (.invokestatic 294, 3) ∧ decode cX9_check 188 = .ok (.iload 4, 2) ∧ decode cX9_check 190 = .ok (.iload_n 2, 1) ∧ decode cX9_check 191 = .ok (.if_icmp .ne 13, 3) ∧ decode cX9_check 194 = .ok (.iload 4, 2) ∧ decode cX9_check 196 = .ok (.iload_n 3, 1) ∧ decode cX9_check 197 = .ok (.if_icmp .ne 7, 3) ∧ decode cX9_check 200 = .ok (.iconst 0, 1) ∧ decode cX9_check 201 = .ok (.goto 7, 3) ∧ decode cX9_check 204 = .ok (.iconst 1, 1) ∧ decode cX9_check 205 = .ok (.iload 4, 2) := by decide +kernel
theorem dX9_check_174 : decode cX9_check 174 = .ok (.goto (-95), 3) := dgX9_check_6.1
theorem dX9_check_177 : decode cX9_check 177 = .ok (.aload_n 0, 1) := dgX9_check_6.2.1
theorem dX9_check_178 : decode cX9_check 178 = .ok (.getfield 16, 3) := dgX9_check_6.2.2.1
theorem dX9_check_181 : decode cX9_check 181 = .ok (.aload_n 0, 1) := dgX9_check_6.2.2.2.1
theorem dX9_check_182 : decode cX9_check 182 = .ok (.getfield 9, 3) := dgX9_check_6.2.2.2.2.1
theorem dX9_check_185 : decode cX9_check 185 = .ok (.invokestatic 294, 3) := dgX9_check_6.2.2.2.2.2.1
theorem dX9_check_188 : decode cX9_check 188 = .ok (.iload 4, 2) := dgX9_check_6.2.2.2.2.2.2.1
theorem dX9_check_190 : decode cX9_check 190 = .ok (.iload_n 2, 1) := dgX9_check_6.2.2.2.2.2.2.2.1
theorem dX9_check_191 : decode cX9_check 191 = .ok (.if_icmp .ne 13, 3) := dgX9_check_6.2.2.2.2.2.2.2.2.1
theorem dX9_check_194 : decode cX9_check 194 = .ok (.iload 4, 2) := dgX9_check_6.2.2.2.2.2.2.2.2.2.1
theorem dX9_check_196 : decode cX9_check 196 = .ok (.iload_n 3, 1) := dgX9_check_6.2.2.2.2.2.2.2.2.2.2.1
theorem dX9_check_197 : decode cX9_check 197 = .ok (.if_icmp .ne 7, 3) := dgX9_check_6.2.2.2.2.2.2.2.2.2.2.2.1
theorem dX9_check_200 : decode cX9_check 200 = .ok (.iconst 0, 1) := dgX9_check_6.2.2.2.2.2.2.2.2.2.2.2.2.1
theorem dX9_check_201 : decode cX9_check 201 = .ok (.goto 7, 3) := dgX9_check_6.2.2.2.2.2.2.2.2.2.2.2.2.2.1
theorem dX9_check_204 : decode cX9_check 204 = .ok (.iconst 1, 1) := dgX9_check_6.2.2.2.2.2.2.2.2.2.2.2.2.2.2.1
theorem dX9_check_205 : decode cX9_check 205 = .ok (.iload 4, 2) := dgX9_check_6.2.2.2.2.2.2.2.2.2.2.2.2.2.2.2
theorem dgX9_check_7 : decode cX9_check 207 = .ok (.iadd, 1) ∧ decode cX9_check 208 = .ok (.ireturn, 1) := by decide +kernel
theorem dX9_check_207 : decode cX9_check 207 = .ok (.iadd, 1) := dgX9_check_7.1
theorem dX9_check_208 : decode cX9_check 208 = .ok (.ireturn, 1) := dgX9_check_7.2
abbrev pX9_check : List Nat := [0, 23, 33, 79, 126, 127, 167, 168, 177, 204, 208]
def bX9_check_0 (cal : ab_F) : ab_K := o_aload 0 <| o_getf 8 35 <| o_istore 2 <| o_aload 0 <| o_push (.int 0) <| o_putI 8 35 <| o_iload 1 <| o_push (.int 1) <| o_push (.int 30) <| o_callS cal 128 3 <| o_if (fun x => decide (¬ x = 0)) 1 <| o_push (.int (-1000000001)) <| o_ret (some .int)
def bX9_check_1 (cal : ab_F) : ab_K := o_aload 0 <| o_getf 8 3 <| o_if (fun x => decide (¬ x = 0)) 2 <| o_push (.int (-1000000002)) <| o_ret (some .int)
def bX9_check_2 (cal : ab_F) : ab_K := o_aload 0 <| o_getf 8 0 <| o_aload 0 <| o_getf 8 2 <| o_callS cal 131 2 <| o_aload 0 <| o_getf 8 1 <| o_aload 0 <| o_getf 8 0 <| o_callS cal 131 2 <| o_push (.int 2) <| o_push (.int 9999) <| o_aload 0 <| o_getf 8 0 <| o_push (.int 2) <| o_iald 0 <| o_bin (fun x y => x - y) <| o_push (.int 0) <| o_iload 1 <| o_callS cal 129 3 <| o_bin (fun x y => x * y) <| o_istore 3 <| o_push (.int 0) <| o_istore 4 <| o_push (.int 0) <| o_istore 5 <| o_goto 3
def bX9_check_3 (cal : ab_F) : ab_K := o_push (.int 2) <| o_iload 5 <| o_bin (fun x y => x * y) <| o_iload 3 <| o_cmp (fun x y => decide (y ≤ x)) 8 <| o_iload 4 <| o_push (.int 2) <| o_iload 5 <| o_bin (fun x y => x * y) <| o_cmp (fun x y => decide (¬ x = y)) 8 <| o_aload 0 <| o_callV cal 159 0 8 <| o_iload 4 <| o_iload 4 <| o_iload 2 <| o_cmp (fun x y => decide (y ≤ x)) 4 <| o_aload 0 <| o_getf 8 34 <| o_iload 4 <| o_iald 0 <| o_aload 0 <| o_callV cal 162 0 8 <| o_cmp (fun x y => decide (¬ x = y)) 4 <| o_push (.int 1) <| o_goto 5
def bX9_check_4 (cal : ab_F) : ab_K := o_push (.int 0) <| o_goto 5
def bX9_check_5 (cal : ab_F) : ab_K := o_bin (fun x y => x + y) <| o_istore 4 <| o_iload 4 <| o_iload 4 <| o_push (.int 2) <| o_iload 5 <| o_bin (fun x y => x * y) <| o_push (.int 1) <| o_bin (fun x y => x + y) <| o_cmp (fun x y => decide (¬ x = y)) 6 <| o_iload 4 <| o_iload 2 <| o_cmp (fun x y => decide (y ≤ x)) 6 <| o_aload 0 <| o_getf 8 34 <| o_iload 4 <| o_iald 0 <| o_aload 0 <| o_callV cal 163 0 8 <| o_cmp (fun x y => decide (¬ x = y)) 6 <| o_push (.int 1) <| o_goto 7
def bX9_check_6 (cal : ab_F) : ab_K := o_push (.int 0) <| o_goto 7
def bX9_check_7 (cal : ab_F) : ab_K := o_bin (fun x y => x + y) <| o_istore 4 <| o_iinc 5 1 <| o_goto 3
def bX9_check_8 (cal : ab_F) : ab_K := o_aload 0 <| o_getf 8 2 <| o_aload 0 <| o_getf 8 0 <| o_callS cal 131 2 <| o_iload 4 <| o_iload 2 <| o_cmp (fun x y => decide (¬ x = y)) 9 <| o_iload 4 <| o_iload 3 <| o_cmp (fun x y => decide (¬ x = y)) 9 <| o_push (.int 0) <| o_goto 10
def bX9_check_9 (cal : ab_F) : ab_K := o_push (.int 1) <| o_iload 4 <| o_bin (fun x y => x + y) <| o_goto 10
def bX9_check_10 (cal : ab_F) : ab_K := o_ret (some .int)
def bX9_check (cal : ab_F) : List ab_K := [bX9_check_0 cal, bX9_check_1 cal, bX9_check_2 cal, bX9_check_3 cal, bX9_check_4 cal, bX9_check_5 cal, bX9_check_6 cal, bX9_check_7 cal, bX9_check_8 cal, bX9_check_9 cal, bX9_check_10 cal]
set_option maxRecDepth 100000 in
theorem sX9_check_0 {G : ab_G} {xs : List Int32} {d : Nat} {cal : ab_F} (hcs : ab_CS G (ab_Z G xs) ab_Mf cal d) : ab_Sd G (ab_Z G xs) (d + 1) (ab_mY mX9_check pX9_check) 0 (bX9_check_0 cal) :=
  sn_aload_n dX9_check_0 rfl <| sn_getf dX9_check_1 rfl hinX9 (by decide) w_1026 <| sn_istore_n dX9_check_4 rfl (by decide) <| sn_aload_n dX9_check_5 rfl <| sn_iconst dX9_check_6 rfl <| sn_putI tyX9 tyX9_ok nmX9 dX9_check_7 rfl hinX9 (by decide) w_1026 (Or.inl rfl) (tyX9_ok 35 (by decide)) <| sn_iload_n dX9_check_10 rfl <| sn_iconst dX9_check_11 rfl <| sn_bipush dX9_check_12 rfl <| sq_callS mt_128 hcs dX9_check_14 w_1106 w_1107 w_63 w_1108 hy_128 hm_128 <| sn_if_ne (tg := 23) dX9_check_17 rfl rfl <| sn_ldc dX9_check_20 w_1109 <| sn_ret dX9_check_22 ab_ri_int
set_option maxRecDepth 100000 in
theorem sX9_check_1 {G : ab_G} {xs : List Int32} {d : Nat} {cal : ab_F} (hcs : ab_CS G (ab_Z G xs) ab_Mf cal d) : ab_Sd G (ab_Z G xs) (d + 1) (ab_mY mX9_check pX9_check) 23 (bX9_check_1 cal) :=
  sn_aload_n dX9_check_23 rfl <| sn_getf dX9_check_24 rfl hinX9 (by decide) w_994 <| sn_if_ne (tg := 33) dX9_check_27 rfl rfl <| sn_ldc dX9_check_30 w_1195 <| sn_ret dX9_check_32 ab_ri_int
set_option maxRecDepth 100000 in
theorem sX9_check_2 {G : ab_G} {xs : List Int32} {d : Nat} {cal : ab_F} (hcs : ab_CS G (ab_Z G xs) ab_Mf cal d) : ab_Sd G (ab_Z G xs) (d + 1) (ab_mY mX9_check pX9_check) 33 (bX9_check_2 cal) :=
  sn_aload_n dX9_check_33 rfl <| sn_getf dX9_check_34 rfl hinX9 (by decide) w_991 <| sn_aload_n dX9_check_37 rfl <| sn_getf dX9_check_38 rfl hinX9 (by decide) w_993 <| sq_callS mt_131 hcs dX9_check_41 w_1463 w_1464 w_63 w_1465 hy_131 hm_131 <| sn_aload_n dX9_check_44 rfl <| sn_getf dX9_check_45 rfl hinX9 (by decide) w_992 <| sn_aload_n dX9_check_48 rfl <| sn_getf dX9_check_49 rfl hinX9 (by decide) w_991 <| sq_callS mt_131 hcs dX9_check_52 w_1463 w_1464 w_63 w_1465 hy_131 hm_131 <| sn_iconst dX9_check_55 rfl <| sn_sipush dX9_check_56 rfl <| sn_aload_n dX9_check_59 rfl <| sn_getf dX9_check_60 rfl hinX9 (by decide) w_991 <| sn_iconst dX9_check_63 rfl <| sn_iald dX9_check_64 rfl <| sn_isub dX9_check_65 <| sn_iconst dX9_check_66 rfl <| sn_iload_n dX9_check_67 rfl <| sq_callS mt_129 hcs dX9_check_68 w_1165 w_1166 w_63 w_1167 hy_129 hm_129 <| sn_imul dX9_check_71 <| sn_istore_n dX9_check_72 rfl (by decide) <| sn_iconst dX9_check_73 rfl <| sn_istore dX9_check_74 (by decide) <| sn_iconst dX9_check_76 rfl <| sn_istore dX9_check_77 (by decide) <| sn_next rfl
set_option maxRecDepth 100000 in
theorem sX9_check_3 {G : ab_G} {xs : List Int32} {d : Nat} {cal : ab_F} (hcs : ab_CS G (ab_Z G xs) ab_Mf cal d) : ab_Sd G (ab_Z G xs) (d + 1) (ab_mY mX9_check pX9_check) 79 (bX9_check_3 cal) :=
  sn_iconst dX9_check_79 rfl <| sn_iload dX9_check_80 <| sn_imul dX9_check_82 <| sn_iload_n dX9_check_83 rfl <| sn_cmp_ge (tg := 177) dX9_check_84 rfl rfl <| sn_iload dX9_check_87 <| sn_iconst dX9_check_89 rfl <| sn_iload dX9_check_90 <| sn_imul dX9_check_92 <| sn_cmp_ne (tg := 177) dX9_check_93 rfl rfl <| sn_aload_n dX9_check_96 rfl <| sq_callV mt_159 hcs dX9_check_97 rfl w_1233 w_1235 w_31 w_63 w_1236 hy_159 hm_159 <| sn_iload dX9_check_100 <| sn_iload dX9_check_102 <| sn_iload_n dX9_check_104 rfl <| sn_cmp_ge (tg := 126) dX9_check_105 rfl rfl <| sn_aload_n dX9_check_108 rfl <| sn_getf dX9_check_109 rfl hinX9 (by decide) w_1025 <| sn_iload dX9_check_112 <| sn_iald dX9_check_114 rfl <| sn_aload_n dX9_check_115 rfl <| sq_callV mt_162 hcs dX9_check_116 rfl w_1245 w_1247 w_33 w_63 w_1248 hy_162 hm_162 <| sn_cmp_ne (tg := 126) dX9_check_119 rfl rfl <| sn_iconst dX9_check_122 rfl <| sn_goto (tg := 127) dX9_check_123 rfl rfl
set_option maxRecDepth 100000 in
theorem sX9_check_4 {G : ab_G} {xs : List Int32} {d : Nat} {cal : ab_F} (hcs : ab_CS G (ab_Z G xs) ab_Mf cal d) : ab_Sd G (ab_Z G xs) (d + 1) (ab_mY mX9_check pX9_check) 126 (bX9_check_4 cal) :=
  sn_iconst dX9_check_126 rfl <| sn_next rfl
set_option maxRecDepth 100000 in
theorem sX9_check_5 {G : ab_G} {xs : List Int32} {d : Nat} {cal : ab_F} (hcs : ab_CS G (ab_Z G xs) ab_Mf cal d) : ab_Sd G (ab_Z G xs) (d + 1) (ab_mY mX9_check pX9_check) 127 (bX9_check_5 cal) :=
  sn_iadd dX9_check_127 <| sn_istore dX9_check_128 (by decide) <| sn_iload dX9_check_130 <| sn_iload dX9_check_132 <| sn_iconst dX9_check_134 rfl <| sn_iload dX9_check_135 <| sn_imul dX9_check_137 <| sn_iconst dX9_check_138 rfl <| sn_iadd dX9_check_139 <| sn_cmp_ne (tg := 167) dX9_check_140 rfl rfl <| sn_iload dX9_check_143 <| sn_iload_n dX9_check_145 rfl <| sn_cmp_ge (tg := 167) dX9_check_146 rfl rfl <| sn_aload_n dX9_check_149 rfl <| sn_getf dX9_check_150 rfl hinX9 (by decide) w_1025 <| sn_iload dX9_check_153 <| sn_iald dX9_check_155 rfl <| sn_aload_n dX9_check_156 rfl <| sq_callV mt_163 hcs dX9_check_157 rfl w_1249 w_1251 w_34 w_63 w_1252 hy_163 hm_163 <| sn_cmp_ne (tg := 167) dX9_check_160 rfl rfl <| sn_iconst dX9_check_163 rfl <| sn_goto (tg := 168) dX9_check_164 rfl rfl
set_option maxRecDepth 100000 in
theorem sX9_check_6 {G : ab_G} {xs : List Int32} {d : Nat} {cal : ab_F} (hcs : ab_CS G (ab_Z G xs) ab_Mf cal d) : ab_Sd G (ab_Z G xs) (d + 1) (ab_mY mX9_check pX9_check) 167 (bX9_check_6 cal) :=
  sn_iconst dX9_check_167 rfl <| sn_next rfl
set_option maxRecDepth 100000 in
theorem sX9_check_7 {G : ab_G} {xs : List Int32} {d : Nat} {cal : ab_F} (hcs : ab_CS G (ab_Z G xs) ab_Mf cal d) : ab_Sd G (ab_Z G xs) (d + 1) (ab_mY mX9_check pX9_check) 168 (bX9_check_7 cal) :=
  sn_iadd dX9_check_168 <| sn_istore dX9_check_169 (by decide) <| sn_iinc dX9_check_171 rfl (by decide) <| sn_goto (tg := 79) dX9_check_174 rfl rfl
set_option maxRecDepth 100000 in
theorem sX9_check_8 {G : ab_G} {xs : List Int32} {d : Nat} {cal : ab_F} (hcs : ab_CS G (ab_Z G xs) ab_Mf cal d) : ab_Sd G (ab_Z G xs) (d + 1) (ab_mY mX9_check pX9_check) 177 (bX9_check_8 cal) :=
  sn_aload_n dX9_check_177 rfl <| sn_getf dX9_check_178 rfl hinX9 (by decide) w_993 <| sn_aload_n dX9_check_181 rfl <| sn_getf dX9_check_182 rfl hinX9 (by decide) w_991 <| sq_callS mt_131 hcs dX9_check_185 w_1463 w_1464 w_63 w_1465 hy_131 hm_131 <| sn_iload dX9_check_188 <| sn_iload_n dX9_check_190 rfl <| sn_cmp_ne (tg := 204) dX9_check_191 rfl rfl <| sn_iload dX9_check_194 <| sn_iload_n dX9_check_196 rfl <| sn_cmp_ne (tg := 204) dX9_check_197 rfl rfl <| sn_iconst dX9_check_200 rfl <| sn_goto (tg := 208) dX9_check_201 rfl rfl
set_option maxRecDepth 100000 in
theorem sX9_check_9 {G : ab_G} {xs : List Int32} {d : Nat} {cal : ab_F} (hcs : ab_CS G (ab_Z G xs) ab_Mf cal d) : ab_Sd G (ab_Z G xs) (d + 1) (ab_mY mX9_check pX9_check) 204 (bX9_check_9 cal) :=
  sn_iconst dX9_check_204 rfl <| sn_iload dX9_check_205 <| sn_iadd dX9_check_207 <| sn_next rfl
set_option maxRecDepth 100000 in
theorem sX9_check_10 {G : ab_G} {xs : List Int32} {d : Nat} {cal : ab_F} (hcs : ab_CS G (ab_Z G xs) ab_Mf cal d) : ab_Sd G (ab_Z G xs) (d + 1) (ab_mY mX9_check pX9_check) 208 (bX9_check_10 cal) :=
  sn_ret dX9_check_208 ab_ri_int
theorem sX9_check {G : ab_G} {xs : List Int32} {d : Nat} {cal : ab_F} (hcs : ab_CS G (ab_Z G xs) ab_Mf cal d) : ab_BS G (ab_Z G xs) (d + 1) (ab_mY mX9_check pX9_check) pX9_check (bX9_check cal) := ⟨sX9_check_0 hcs, sX9_check_1 hcs, sX9_check_2 hcs, sX9_check_3 hcs, sX9_check_4 hcs, sX9_check_5 hcs, sX9_check_6 hcs, sX9_check_7 hcs, sX9_check_8 hcs, sX9_check_9 hcs, sX9_check_10 hcs, trivial⟩
theorem dgX9_keep_0 : decode cX9_keep 0 = .ok (.aload_n 0, 1) ∧ decode cX9_keep 1 = .ok (.getfield 9, 3) ∧ decode cX9_keep 4 = .ok (.aload_n 0, 1) ∧ decode cX9_keep 5 = .ok (.getfield 13, 3) ∧ decode cX9_keep 8 = .ok (.invokestatic 294, 3) ∧ decode cX9_keep 11 = .ok (.aload_n 0, 1) ∧ decode cX9_keep 12 = .ok (.iconst 1, 1) ∧ decode cX9_keep 13 = .ok (.putfield 290, 3) ∧ decode cX9_keep 16 = .ok (.aload_n 0, 1) ∧ decode cX9_keep 17 = .ok (.getfield 9, 3) ∧ decode cX9_keep 20 = .ok (.iconst 1, 1) ∧ decode cX9_keep 21 = .ok (.iaload, 1) ∧ decode cX9_keep 22 = .ok (.ireturn, 1) := by decide +kernel
theorem dX9_keep_0 : decode cX9_keep 0 = .ok (.aload_n 0, 1) := dgX9_keep_0.1
theorem dX9_keep_1 : decode cX9_keep 1 = .ok (.getfield 9, 3) := dgX9_keep_0.2.1
theorem dX9_keep_4 : decode cX9_keep 4 = .ok (.aload_n 0, 1) := dgX9_keep_0.2.2.1
theorem dX9_keep_5 : decode cX9_keep 5 = .ok (.getfield 13, 3) := dgX9_keep_0.2.2.2.1
theorem dX9_keep_8 : decode cX9_keep 8 = .ok (.invokestatic 294, 3) := dgX9_keep_0.2.2.2.2.1
theorem dX9_keep_11 : decode cX9_keep 11 = .ok (.aload_n 0, 1) := dgX9_keep_0.2.2.2.2.2.1
theorem dX9_keep_12 : decode cX9_keep 12 = .ok (.iconst 1, 1) := dgX9_keep_0.2.2.2.2.2.2.1
theorem dX9_keep_13 : decode cX9_keep 13 = .ok (.putfield 290, 3) := dgX9_keep_0.2.2.2.2.2.2.2.1
theorem dX9_keep_16 : decode cX9_keep 16 = .ok (.aload_n 0, 1) := dgX9_keep_0.2.2.2.2.2.2.2.2.1
theorem dX9_keep_17 : decode cX9_keep 17 = .ok (.getfield 9, 3) := dgX9_keep_0.2.2.2.2.2.2.2.2.2.1
theorem dX9_keep_20 : decode cX9_keep 20 = .ok (.iconst 1, 1) := dgX9_keep_0.2.2.2.2.2.2.2.2.2.2.1
theorem dX9_keep_21 : decode cX9_keep 21 = .ok (.iaload, 1) := dgX9_keep_0.2.2.2.2.2.2.2.2.2.2.2.1
theorem dX9_keep_22 : decode cX9_keep 22 = .ok (.ireturn, 1) := dgX9_keep_0.2.2.2.2.2.2.2.2.2.2.2.2
abbrev pX9_keep : List Nat := [0]
def bX9_keep_0 (cal : ab_F) : ab_K := o_aload 0 <| o_getf 8 0 <| o_aload 0 <| o_getf 8 1 <| o_callS cal 131 2 <| o_aload 0 <| o_push (.int 1) <| o_putZ 8 3 <| o_aload 0 <| o_getf 8 0 <| o_push (.int 1) <| o_iald 0 <| o_ret (some .int)
def bX9_keep (cal : ab_F) : List ab_K := [bX9_keep_0 cal]
set_option maxRecDepth 100000 in
theorem sX9_keep_0 {G : ab_G} {xs : List Int32} {d : Nat} {cal : ab_F} (hcs : ab_CS G (ab_Z G xs) ab_Mf cal d) : ab_Sd G (ab_Z G xs) (d + 1) (ab_mY mX9_keep pX9_keep) 0 (bX9_keep_0 cal) :=
  sn_aload_n dX9_keep_0 rfl <| sn_getf dX9_keep_1 rfl hinX9 (by decide) w_991 <| sn_aload_n dX9_keep_4 rfl <| sn_getf dX9_keep_5 rfl hinX9 (by decide) w_992 <| sq_callS mt_131 hcs dX9_keep_8 w_1463 w_1464 w_63 w_1465 hy_131 hm_131 <| sn_aload_n dX9_keep_11 rfl <| sn_iconst dX9_keep_12 rfl <| sn_putZ tyX9 tyX9_ok nmX9 dX9_keep_13 rfl hinX9 (by decide) w_994 (Or.inl rfl) (tyX9_ok 3 (by decide)) <| sn_aload_n dX9_keep_16 rfl <| sn_getf dX9_keep_17 rfl hinX9 (by decide) w_991 <| sn_iconst dX9_keep_20 rfl <| sn_iald dX9_keep_21 rfl <| sn_ret dX9_keep_22 ab_ri_int
theorem sX9_keep {G : ab_G} {xs : List Int32} {d : Nat} {cal : ab_F} (hcs : ab_CS G (ab_Z G xs) ab_Mf cal d) : ab_BS G (ab_Z G xs) (d + 1) (ab_mY mX9_keep pX9_keep) pX9_keep (bX9_keep cal) := ⟨sX9_keep_0 hcs, trivial⟩
theorem dgX9_back_0 : decode cX9_back 0 = .ok (.aload_n 0, 1) ∧ decode cX9_back 1 = .ok (.getfield 290, 3) ∧ decode cX9_back 4 = .ok (.ifCond .ne 6, 3) ∧ decode cX9_back 7 = .ok (.ldc 146, 2) ∧ decode cX9_back 9 = .ok (.ireturn, 1) ∧ decode cX9_back 10 = .ok (.aload_n 0, 1) ∧ decode cX9_back 11 = .ok (.getfield 13, 3) ∧ decode cX9_back 14 = .ok (.aload_n 0, 1) ∧ decode cX9_back 15 = .ok (.getfield 9, 3) ∧ decode cX9_back 18 = .ok (.invokestatic 294, 3) ∧ decode cX9_back 21 = .ok (.aload_n 0, 1) ∧ decode cX9_back 22 = .ok (.getfield 9, 3) ∧ decode cX9_back 25 = .ok (.iconst 1, 1) ∧ decode cX9_back 26 = .ok (.iaload, 1) ∧ decode cX9_back 27 = .ok (.ireturn, 1) := by decide +kernel
theorem dX9_back_0 : decode cX9_back 0 = .ok (.aload_n 0, 1) := dgX9_back_0.1
theorem dX9_back_1 : decode cX9_back 1 = .ok (.getfield 290, 3) := dgX9_back_0.2.1
theorem dX9_back_4 : decode cX9_back 4 = .ok (.ifCond .ne 6, 3) := dgX9_back_0.2.2.1
theorem dX9_back_7 : decode cX9_back 7 = .ok (.ldc 146, 2) := dgX9_back_0.2.2.2.1
theorem dX9_back_9 : decode cX9_back 9 = .ok (.ireturn, 1) := dgX9_back_0.2.2.2.2.1
theorem dX9_back_10 : decode cX9_back 10 = .ok (.aload_n 0, 1) := dgX9_back_0.2.2.2.2.2.1
theorem dX9_back_11 : decode cX9_back 11 = .ok (.getfield 13, 3) := dgX9_back_0.2.2.2.2.2.2.1
theorem dX9_back_14 : decode cX9_back 14 = .ok (.aload_n 0, 1) := dgX9_back_0.2.2.2.2.2.2.2.1
theorem dX9_back_15 : decode cX9_back 15 = .ok (.getfield 9, 3) := dgX9_back_0.2.2.2.2.2.2.2.2.1
theorem dX9_back_18 : decode cX9_back 18 = .ok (.invokestatic 294, 3) := dgX9_back_0.2.2.2.2.2.2.2.2.2.1
theorem dX9_back_21 : decode cX9_back 21 = .ok (.aload_n 0, 1) := dgX9_back_0.2.2.2.2.2.2.2.2.2.2.1
theorem dX9_back_22 : decode cX9_back 22 = .ok (.getfield 9, 3) := dgX9_back_0.2.2.2.2.2.2.2.2.2.2.2.1
theorem dX9_back_25 : decode cX9_back 25 = .ok (.iconst 1, 1) := dgX9_back_0.2.2.2.2.2.2.2.2.2.2.2.2.1
theorem dX9_back_26 : decode cX9_back 26 = .ok (.iaload, 1) := dgX9_back_0.2.2.2.2.2.2.2.2.2.2.2.2.2.1
theorem dX9_back_27 : decode cX9_back 27 = .ok (.ireturn, 1) := dgX9_back_0.2.2.2.2.2.2.2.2.2.2.2.2.2.2
abbrev pX9_back : List Nat := [0, 10]
def bX9_back_0 (cal : ab_F) : ab_K := o_aload 0 <| o_getf 8 3 <| o_if (fun x => decide (¬ x = 0)) 1 <| o_push (.int (-1000000002)) <| o_ret (some .int)
def bX9_back_1 (cal : ab_F) : ab_K := o_aload 0 <| o_getf 8 1 <| o_aload 0 <| o_getf 8 0 <| o_callS cal 131 2 <| o_aload 0 <| o_getf 8 0 <| o_push (.int 1) <| o_iald 0 <| o_ret (some .int)
def bX9_back (cal : ab_F) : List ab_K := [bX9_back_0 cal, bX9_back_1 cal]
set_option maxRecDepth 100000 in
theorem sX9_back_0 {G : ab_G} {xs : List Int32} {d : Nat} {cal : ab_F} (hcs : ab_CS G (ab_Z G xs) ab_Mf cal d) : ab_Sd G (ab_Z G xs) (d + 1) (ab_mY mX9_back pX9_back) 0 (bX9_back_0 cal) :=
  sn_aload_n dX9_back_0 rfl <| sn_getf dX9_back_1 rfl hinX9 (by decide) w_994 <| sn_if_ne (tg := 10) dX9_back_4 rfl rfl <| sn_ldc dX9_back_7 w_1195 <| sn_ret dX9_back_9 ab_ri_int
set_option maxRecDepth 100000 in
theorem sX9_back_1 {G : ab_G} {xs : List Int32} {d : Nat} {cal : ab_F} (hcs : ab_CS G (ab_Z G xs) ab_Mf cal d) : ab_Sd G (ab_Z G xs) (d + 1) (ab_mY mX9_back pX9_back) 10 (bX9_back_1 cal) :=
  sn_aload_n dX9_back_10 rfl <| sn_getf dX9_back_11 rfl hinX9 (by decide) w_992 <| sn_aload_n dX9_back_14 rfl <| sn_getf dX9_back_15 rfl hinX9 (by decide) w_991 <| sq_callS mt_131 hcs dX9_back_18 w_1463 w_1464 w_63 w_1465 hy_131 hm_131 <| sn_aload_n dX9_back_21 rfl <| sn_getf dX9_back_22 rfl hinX9 (by decide) w_991 <| sn_iconst dX9_back_25 rfl <| sn_iald dX9_back_26 rfl <| sn_ret dX9_back_27 ab_ri_int
theorem sX9_back {G : ab_G} {xs : List Int32} {d : Nat} {cal : ab_F} (hcs : ab_CS G (ab_Z G xs) ab_Mf cal d) : ab_BS G (ab_Z G xs) (d + 1) (ab_mY mX9_back pX9_back) pX9_back (bX9_back cal) := ⟨sX9_back_0 hcs, sX9_back_1 hcs, trivial⟩
theorem dgX9_count_0 : decode cX9_count 0 = .ok (.iload_n 1, 1) ∧ decode cX9_count 1 = .ok (.tableswitch 104 0 7 #[47, 54, 61, 68, 80, 87, 92, 97], 47) ∧ decode cX9_count 48 = .ok (.aload_n 0, 1) ∧ decode cX9_count 49 = .ok (.getfield 9, 3) ∧ decode cX9_count 52 = .ok (.iconst 1, 1) ∧ decode cX9_count 53 = .ok (.iaload, 1) ∧ decode cX9_count 54 = .ok (.ireturn, 1) ∧ decode cX9_count 55 = .ok (.aload_n 0, 1) ∧ decode cX9_count 56 = .ok (.getfield 9, 3) ∧ decode cX9_count 59 = .ok (.iconst 2, 1) ∧ decode cX9_count 60 = .ok (.iaload, 1) ∧ decode cX9_count 61 = .ok (.ireturn, 1) ∧ decode cX9_count 62 = .ok (.aload_n 0, 1) ∧ decode cX9_count 63 = .ok (.getfield 9, 3) ∧ decode cX9_count 66 = .ok (.iconst 3, 1) ∧ decode cX9_count 67 = .ok (.iaload, 1) := by decide +kernel
theorem dX9_count_0 : decode cX9_count 0 = .ok (.iload_n 1, 1) := dgX9_count_0.1
theorem dX9_count_1 : decode cX9_count 1 = .ok (.tableswitch 104 0 7 #[47, 54, 61, 68, 80, 87, 92, 97], 47) := dgX9_count_0.2.1
theorem dX9_count_48 : decode cX9_count 48 = .ok (.aload_n 0, 1) := dgX9_count_0.2.2.1
theorem dX9_count_49 : decode cX9_count 49 = .ok (.getfield 9, 3) := dgX9_count_0.2.2.2.1
theorem dX9_count_52 : decode cX9_count 52 = .ok (.iconst 1, 1) := dgX9_count_0.2.2.2.2.1
theorem dX9_count_53 : decode cX9_count 53 = .ok (.iaload, 1) := dgX9_count_0.2.2.2.2.2.1
theorem dX9_count_54 : decode cX9_count 54 = .ok (.ireturn, 1) := dgX9_count_0.2.2.2.2.2.2.1
theorem dX9_count_55 : decode cX9_count 55 = .ok (.aload_n 0, 1) := dgX9_count_0.2.2.2.2.2.2.2.1
theorem dX9_count_56 : decode cX9_count 56 = .ok (.getfield 9, 3) := dgX9_count_0.2.2.2.2.2.2.2.2.1
theorem dX9_count_59 : decode cX9_count 59 = .ok (.iconst 2, 1) := dgX9_count_0.2.2.2.2.2.2.2.2.2.1
theorem dX9_count_60 : decode cX9_count 60 = .ok (.iaload, 1) := dgX9_count_0.2.2.2.2.2.2.2.2.2.2.1
theorem dX9_count_61 : decode cX9_count 61 = .ok (.ireturn, 1) := dgX9_count_0.2.2.2.2.2.2.2.2.2.2.2.1
theorem dX9_count_62 : decode cX9_count 62 = .ok (.aload_n 0, 1) := dgX9_count_0.2.2.2.2.2.2.2.2.2.2.2.2.1
theorem dX9_count_63 : decode cX9_count 63 = .ok (.getfield 9, 3) := dgX9_count_0.2.2.2.2.2.2.2.2.2.2.2.2.2.1
theorem dX9_count_66 : decode cX9_count 66 = .ok (.iconst 3, 1) := dgX9_count_0.2.2.2.2.2.2.2.2.2.2.2.2.2.2.1
theorem dX9_count_67 : decode cX9_count 67 = .ok (.iaload, 1) := dgX9_count_0.2.2.2.2.2.2.2.2.2.2.2.2.2.2.2
theorem dgX9_count_1 : decode cX9_count 68 = .ok (.ireturn, 1) ∧ decode cX9_count 69 = .ok (.aload_n 0, 1) ∧ decode cX9_count 70 = .ok (.getfield 9, 3) ∧ decode cX9_count 73 = .ok (.iconst 1, 1) ∧ decode cX9_count 74 = .ok (.iaload, 1) ∧ decode cX9_count 75 = .ok (.aload_n 0, 1) ∧ decode cX9_count 76 = .ok (.invokevirtual 159, 3) ∧ decode cX9_count 79 = .ok (.isub, 1) ∧ decode cX9_count 80 = .ok (.ireturn, 1) ∧ decode cX9_count 81 = .ok (.aload_n 0, 1) ∧ decode cX9_count 82 = .ok (.getfield 9, 3) ∧ decode cX9_count 85 = .ok (.iconst 4, 1) ∧ decode cX9_count 86 = .ok (.iaload, 1) ∧ decode cX9_count 87 = .ok (.ireturn, 1) ∧ decode cX9_count 88 = .ok (.aload_n 0, 1) ∧ decode cX9_count 89 = .ok (.getfield 287, 3) := by decide +kernel
theorem dX9_count_68 : decode cX9_count 68 = .ok (.ireturn, 1) := dgX9_count_1.1
theorem dX9_count_69 : decode cX9_count 69 = .ok (.aload_n 0, 1) := dgX9_count_1.2.1
theorem dX9_count_70 : decode cX9_count 70 = .ok (.getfield 9, 3) := dgX9_count_1.2.2.1
theorem dX9_count_73 : decode cX9_count 73 = .ok (.iconst 1, 1) := dgX9_count_1.2.2.2.1
theorem dX9_count_74 : decode cX9_count 74 = .ok (.iaload, 1) := dgX9_count_1.2.2.2.2.1
theorem dX9_count_75 : decode cX9_count 75 = .ok (.aload_n 0, 1) := dgX9_count_1.2.2.2.2.2.1
theorem dX9_count_76 : decode cX9_count 76 = .ok (.invokevirtual 159, 3) := dgX9_count_1.2.2.2.2.2.2.1
theorem dX9_count_79 : decode cX9_count 79 = .ok (.isub, 1) := dgX9_count_1.2.2.2.2.2.2.2.1
theorem dX9_count_80 : decode cX9_count 80 = .ok (.ireturn, 1) := dgX9_count_1.2.2.2.2.2.2.2.2.1
theorem dX9_count_81 : decode cX9_count 81 = .ok (.aload_n 0, 1) := dgX9_count_1.2.2.2.2.2.2.2.2.2.1
theorem dX9_count_82 : decode cX9_count 82 = .ok (.getfield 9, 3) := dgX9_count_1.2.2.2.2.2.2.2.2.2.2.1
theorem dX9_count_85 : decode cX9_count 85 = .ok (.iconst 4, 1) := dgX9_count_1.2.2.2.2.2.2.2.2.2.2.2.1
theorem dX9_count_86 : decode cX9_count 86 = .ok (.iaload, 1) := dgX9_count_1.2.2.2.2.2.2.2.2.2.2.2.2.1
theorem dX9_count_87 : decode cX9_count 87 = .ok (.ireturn, 1) := dgX9_count_1.2.2.2.2.2.2.2.2.2.2.2.2.2.1
theorem dX9_count_88 : decode cX9_count 88 = .ok (.aload_n 0, 1) := dgX9_count_1.2.2.2.2.2.2.2.2.2.2.2.2.2.2.1
theorem dX9_count_89 : decode cX9_count 89 = .ok (.getfield 287, 3) := dgX9_count_1.2.2.2.2.2.2.2.2.2.2.2.2.2.2.2
theorem dgX9_count_2 : decode cX9_count 92 = .ok (.ireturn, 1) ∧ decode cX9_count 93 = .ok (.aload_n 0, 1) ∧ decode cX9_count 94 = .ok (.getfield 214, 3) ∧ decode cX9_count 97 = .ok (.ireturn, 1) ∧ decode cX9_count 98 = .ok (.aload_n 0, 1) ∧ decode cX9_count 99 = .ok (.getfield 9, 3) ∧ decode cX9_count 102 = .ok (.iconst 0, 1) ∧ decode cX9_count 103 = .ok (.iaload, 1) ∧ decode cX9_count 104 = .ok (.ireturn, 1) ∧ decode cX9_count 105 = .ok (.ldc 90, 2) ∧ decode cX9_count 107 = .ok (.ireturn, 1) := by decide +kernel
theorem dX9_count_92 : decode cX9_count 92 = .ok (.ireturn, 1) := dgX9_count_2.1
theorem dX9_count_93 : decode cX9_count 93 = .ok (.aload_n 0, 1) := dgX9_count_2.2.1
theorem dX9_count_94 : decode cX9_count 94 = .ok (.getfield 214, 3) := dgX9_count_2.2.2.1
theorem dX9_count_97 : decode cX9_count 97 = .ok (.ireturn, 1) := dgX9_count_2.2.2.2.1
theorem dX9_count_98 : decode cX9_count 98 = .ok (.aload_n 0, 1) := dgX9_count_2.2.2.2.2.1
theorem dX9_count_99 : decode cX9_count 99 = .ok (.getfield 9, 3) := dgX9_count_2.2.2.2.2.2.1
theorem dX9_count_102 : decode cX9_count 102 = .ok (.iconst 0, 1) := dgX9_count_2.2.2.2.2.2.2.1
theorem dX9_count_103 : decode cX9_count 103 = .ok (.iaload, 1) := dgX9_count_2.2.2.2.2.2.2.2.1
theorem dX9_count_104 : decode cX9_count 104 = .ok (.ireturn, 1) := dgX9_count_2.2.2.2.2.2.2.2.2.1
theorem dX9_count_105 : decode cX9_count 105 = .ok (.ldc 90, 2) := dgX9_count_2.2.2.2.2.2.2.2.2.2.1
theorem dX9_count_107 : decode cX9_count 107 = .ok (.ireturn, 1) := dgX9_count_2.2.2.2.2.2.2.2.2.2.2
abbrev pX9_count : List Nat := [0, 48, 55, 62, 69, 81, 88, 93, 98, 105]
def bX9_count_0 (cal : ab_F) : ab_K := o_iload 1 <| o_sw (ab_tsw 0 [1, 2, 3, 4, 5, 6, 7, 8] 9)
def bX9_count_1 (cal : ab_F) : ab_K := o_aload 0 <| o_getf 8 0 <| o_push (.int 1) <| o_iald 0 <| o_ret (some .int)
def bX9_count_2 (cal : ab_F) : ab_K := o_aload 0 <| o_getf 8 0 <| o_push (.int 2) <| o_iald 0 <| o_ret (some .int)
def bX9_count_3 (cal : ab_F) : ab_K := o_aload 0 <| o_getf 8 0 <| o_push (.int 3) <| o_iald 0 <| o_ret (some .int)
def bX9_count_4 (cal : ab_F) : ab_K := o_aload 0 <| o_getf 8 0 <| o_push (.int 1) <| o_iald 0 <| o_aload 0 <| o_callV cal 157 0 8 <| o_bin (fun x y => x - y) <| o_ret (some .int)
def bX9_count_5 (cal : ab_F) : ab_K := o_aload 0 <| o_getf 8 0 <| o_push (.int 4) <| o_iald 0 <| o_ret (some .int)
def bX9_count_6 (cal : ab_F) : ab_K := o_aload 0 <| o_getf 8 35 <| o_ret (some .int)
def bX9_count_7 (cal : ab_F) : ab_K := o_aload 0 <| o_getf 8 9 <| o_ret (some .int)
def bX9_count_8 (cal : ab_F) : ab_K := o_aload 0 <| o_getf 8 0 <| o_push (.int 0) <| o_iald 0 <| o_ret (some .int)
def bX9_count_9 (cal : ab_F) : ab_K := o_push (.int (-1000000001)) <| o_ret (some .int)
def bX9_count (cal : ab_F) : List ab_K := [bX9_count_0 cal, bX9_count_1 cal, bX9_count_2 cal, bX9_count_3 cal, bX9_count_4 cal, bX9_count_5 cal, bX9_count_6 cal, bX9_count_7 cal, bX9_count_8 cal, bX9_count_9 cal]
set_option maxRecDepth 100000 in
theorem sX9_count_0 {G : ab_G} {xs : List Int32} {d : Nat} {cal : ab_F} (hcs : ab_CS G (ab_Z G xs) ab_Mf cal d) : ab_Sd G (ab_Z G xs) (d + 1) (ab_mY mX9_count pX9_count) 0 (bX9_count_0 cal) :=
  sn_iload_n dX9_count_0 rfl <| sn_tsw dX9_count_1 rfl rfl rfl
set_option maxRecDepth 100000 in
theorem sX9_count_1 {G : ab_G} {xs : List Int32} {d : Nat} {cal : ab_F} (hcs : ab_CS G (ab_Z G xs) ab_Mf cal d) : ab_Sd G (ab_Z G xs) (d + 1) (ab_mY mX9_count pX9_count) 48 (bX9_count_1 cal) :=
  sn_aload_n dX9_count_48 rfl <| sn_getf dX9_count_49 rfl hinX9 (by decide) w_991 <| sn_iconst dX9_count_52 rfl <| sn_iald dX9_count_53 rfl <| sn_ret dX9_count_54 ab_ri_int
set_option maxRecDepth 100000 in
theorem sX9_count_2 {G : ab_G} {xs : List Int32} {d : Nat} {cal : ab_F} (hcs : ab_CS G (ab_Z G xs) ab_Mf cal d) : ab_Sd G (ab_Z G xs) (d + 1) (ab_mY mX9_count pX9_count) 55 (bX9_count_2 cal) :=
  sn_aload_n dX9_count_55 rfl <| sn_getf dX9_count_56 rfl hinX9 (by decide) w_991 <| sn_iconst dX9_count_59 rfl <| sn_iald dX9_count_60 rfl <| sn_ret dX9_count_61 ab_ri_int
set_option maxRecDepth 100000 in
theorem sX9_count_3 {G : ab_G} {xs : List Int32} {d : Nat} {cal : ab_F} (hcs : ab_CS G (ab_Z G xs) ab_Mf cal d) : ab_Sd G (ab_Z G xs) (d + 1) (ab_mY mX9_count pX9_count) 62 (bX9_count_3 cal) :=
  sn_aload_n dX9_count_62 rfl <| sn_getf dX9_count_63 rfl hinX9 (by decide) w_991 <| sn_iconst dX9_count_66 rfl <| sn_iald dX9_count_67 rfl <| sn_ret dX9_count_68 ab_ri_int
set_option maxRecDepth 100000 in
theorem sX9_count_4 {G : ab_G} {xs : List Int32} {d : Nat} {cal : ab_F} (hcs : ab_CS G (ab_Z G xs) ab_Mf cal d) : ab_Sd G (ab_Z G xs) (d + 1) (ab_mY mX9_count pX9_count) 69 (bX9_count_4 cal) :=
  sn_aload_n dX9_count_69 rfl <| sn_getf dX9_count_70 rfl hinX9 (by decide) w_991 <| sn_iconst dX9_count_73 rfl <| sn_iald dX9_count_74 rfl <| sn_aload_n dX9_count_75 rfl <| sq_callV mt_157 hcs dX9_count_76 rfl w_1225 w_1227 w_29 w_63 w_1228 hy_157 hm_157 <| sn_isub dX9_count_79 <| sn_ret dX9_count_80 ab_ri_int
set_option maxRecDepth 100000 in
theorem sX9_count_5 {G : ab_G} {xs : List Int32} {d : Nat} {cal : ab_F} (hcs : ab_CS G (ab_Z G xs) ab_Mf cal d) : ab_Sd G (ab_Z G xs) (d + 1) (ab_mY mX9_count pX9_count) 81 (bX9_count_5 cal) :=
  sn_aload_n dX9_count_81 rfl <| sn_getf dX9_count_82 rfl hinX9 (by decide) w_991 <| sn_iconst dX9_count_85 rfl <| sn_iald dX9_count_86 rfl <| sn_ret dX9_count_87 ab_ri_int
set_option maxRecDepth 100000 in
theorem sX9_count_6 {G : ab_G} {xs : List Int32} {d : Nat} {cal : ab_F} (hcs : ab_CS G (ab_Z G xs) ab_Mf cal d) : ab_Sd G (ab_Z G xs) (d + 1) (ab_mY mX9_count pX9_count) 88 (bX9_count_6 cal) :=
  sn_aload_n dX9_count_88 rfl <| sn_getf dX9_count_89 rfl hinX9 (by decide) w_1026 <| sn_ret dX9_count_92 ab_ri_int
set_option maxRecDepth 100000 in
theorem sX9_count_7 {G : ab_G} {xs : List Int32} {d : Nat} {cal : ab_F} (hcs : ab_CS G (ab_Z G xs) ab_Mf cal d) : ab_Sd G (ab_Z G xs) (d + 1) (ab_mY mX9_count pX9_count) 93 (bX9_count_7 cal) :=
  sn_aload_n dX9_count_93 rfl <| sn_getf dX9_count_94 rfl hinX9 (by decide) w_1000 <| sn_ret dX9_count_97 ab_ri_int
set_option maxRecDepth 100000 in
theorem sX9_count_8 {G : ab_G} {xs : List Int32} {d : Nat} {cal : ab_F} (hcs : ab_CS G (ab_Z G xs) ab_Mf cal d) : ab_Sd G (ab_Z G xs) (d + 1) (ab_mY mX9_count pX9_count) 98 (bX9_count_8 cal) :=
  sn_aload_n dX9_count_98 rfl <| sn_getf dX9_count_99 rfl hinX9 (by decide) w_991 <| sn_iconst dX9_count_102 rfl <| sn_iald dX9_count_103 rfl <| sn_ret dX9_count_104 ab_ri_int
set_option maxRecDepth 100000 in
theorem sX9_count_9 {G : ab_G} {xs : List Int32} {d : Nat} {cal : ab_F} (hcs : ab_CS G (ab_Z G xs) ab_Mf cal d) : ab_Sd G (ab_Z G xs) (d + 1) (ab_mY mX9_count pX9_count) 105 (bX9_count_9 cal) :=
  sn_ldc dX9_count_105 w_1109 <| sn_ret dX9_count_107 ab_ri_int
theorem sX9_count {G : ab_G} {xs : List Int32} {d : Nat} {cal : ab_F} (hcs : ab_CS G (ab_Z G xs) ab_Mf cal d) : ab_BS G (ab_Z G xs) (d + 1) (ab_mY mX9_count pX9_count) pX9_count (bX9_count cal) := ⟨sX9_count_0 hcs, sX9_count_1 hcs, sX9_count_2 hcs, sX9_count_3 hcs, sX9_count_4 hcs, sX9_count_5 hcs, sX9_count_6 hcs, sX9_count_7 hcs, sX9_count_8 hcs, sX9_count_9 hcs, trivial⟩
