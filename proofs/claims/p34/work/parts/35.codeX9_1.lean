theorem dgX9_put_0 : decode cX9_put 0 = .ok (.aload_n 0, 1) ∧ decode cX9_put 1 = .ok (.iload_n 1, 1) ∧ decode cX9_put 2 = .ok (.invokevirtual 100, 3) ∧ decode cX9_put 5 = .ok (.ifCond .eq 19, 3) ∧ decode cX9_put 8 = .ok (.iload_n 2, 1) ∧ decode cX9_put 9 = .ok (.invokestatic 129, 3) ∧ decode cX9_put 12 = .ok (.ifCond .eq 12, 3) ∧ decode cX9_put 15 = .ok (.iload_n 3, 1) ∧ decode cX9_put 16 = .ok (.iconst 0, 1) ∧ decode cX9_put 17 = .ok (.iconst 1, 1) ∧ decode cX9_put 18 = .ok (.invokestatic 86, 3) ∧ decode cX9_put 21 = .ok (.ifCond .ne 6, 3) ∧ decode cX9_put 24 = .ok (.ldc 90, 2) ∧ decode cX9_put 26 = .ok (.ireturn, 1) ∧ decode cX9_put 27 = .ok (.aload_n 0, 1) ∧ decode cX9_put 28 = .ok (.iload_n 2, 1) := by decide +kernel
theorem dX9_put_0 : decode cX9_put 0 = .ok (.aload_n 0, 1) := dgX9_put_0.1
theorem dX9_put_1 : decode cX9_put 1 = .ok (.iload_n 1, 1) := dgX9_put_0.2.1
theorem dX9_put_2 : decode cX9_put 2 = .ok (.invokevirtual 100, 3) := dgX9_put_0.2.2.1
theorem dX9_put_5 : decode cX9_put 5 = .ok (.ifCond .eq 19, 3) := dgX9_put_0.2.2.2.1
theorem dX9_put_8 : decode cX9_put 8 = .ok (.iload_n 2, 1) := dgX9_put_0.2.2.2.2.1
theorem dX9_put_9 : decode cX9_put 9 = .ok (.invokestatic 129, 3) := dgX9_put_0.2.2.2.2.2.1
theorem dX9_put_12 : decode cX9_put 12 = .ok (.ifCond .eq 12, 3) := dgX9_put_0.2.2.2.2.2.2.1
theorem dX9_put_15 : decode cX9_put 15 = .ok (.iload_n 3, 1) := dgX9_put_0.2.2.2.2.2.2.2.1
theorem dX9_put_16 : decode cX9_put 16 = .ok (.iconst 0, 1) := dgX9_put_0.2.2.2.2.2.2.2.2.1
theorem dX9_put_17 : decode cX9_put 17 = .ok (.iconst 1, 1) := dgX9_put_0.2.2.2.2.2.2.2.2.2.1
theorem dX9_put_18 : decode cX9_put 18 = .ok (.invokestatic 86, 3) := dgX9_put_0.2.2.2.2.2.2.2.2.2.2.1
theorem dX9_put_21 : decode cX9_put 21 = .ok (.ifCond .ne 6, 3) := dgX9_put_0.2.2.2.2.2.2.2.2.2.2.2.1
theorem dX9_put_24 : decode cX9_put 24 = .ok (.ldc 90, 2) := dgX9_put_0.2.2.2.2.2.2.2.2.2.2.2.2.1
theorem dX9_put_26 : decode cX9_put 26 = .ok (.ireturn, 1) := dgX9_put_0.2.2.2.2.2.2.2.2.2.2.2.2.2.1
theorem dX9_put_27 : decode cX9_put 27 = .ok (.aload_n 0, 1) := dgX9_put_0.2.2.2.2.2.2.2.2.2.2.2.2.2.2.1
theorem dX9_put_28 : decode cX9_put 28 = .ok (.iload_n 2, 1) := dgX9_put_0.2.2.2.2.2.2.2.2.2.2.2.2.2.2.2
theorem dgX9_put_1 : decode cX9_put 29 = .ok (.invokevirtual 143, 3) ∧ decode cX9_put 32 = .ok (.istore 4, 2) ∧ decode cX9_put 34 = .ok (.iload 4, 2) ∧ decode cX9_put 36 = .ok (.ifCond .lt 12, 3) ∧ decode cX9_put 39 = .ok (.iload 4, 2) ∧ decode cX9_put 41 = .ok (.iload_n 1, 1) ∧ decode cX9_put 42 = .ok (.if_icmp .eq 6, 3) ∧ decode cX9_put 45 = .ok (.ldc 146, 2) ∧ decode cX9_put 47 = .ok (.ireturn, 1) ∧ decode cX9_put 48 = .ok (.aload_n 0, 1) ∧ decode cX9_put 49 = .ok (.getfield 9, 3) ∧ decode cX9_put 52 = .ok (.bipush 29, 2) ∧ decode cX9_put 54 = .ok (.iconst 5, 1) ∧ decode cX9_put 55 = .ok (.iload_n 1, 1) ∧ decode cX9_put 56 = .ok (.imul, 1) ∧ decode cX9_put 57 = .ok (.iadd, 1) := by decide +kernel
theorem dX9_put_29 : decode cX9_put 29 = .ok (.invokevirtual 143, 3) := dgX9_put_1.1
theorem dX9_put_32 : decode cX9_put 32 = .ok (.istore 4, 2) := dgX9_put_1.2.1
theorem dX9_put_34 : decode cX9_put 34 = .ok (.iload 4, 2) := dgX9_put_1.2.2.1
theorem dX9_put_36 : decode cX9_put 36 = .ok (.ifCond .lt 12, 3) := dgX9_put_1.2.2.2.1
theorem dX9_put_39 : decode cX9_put 39 = .ok (.iload 4, 2) := dgX9_put_1.2.2.2.2.1
theorem dX9_put_41 : decode cX9_put 41 = .ok (.iload_n 1, 1) := dgX9_put_1.2.2.2.2.2.1
theorem dX9_put_42 : decode cX9_put 42 = .ok (.if_icmp .eq 6, 3) := dgX9_put_1.2.2.2.2.2.2.1
theorem dX9_put_45 : decode cX9_put 45 = .ok (.ldc 146, 2) := dgX9_put_1.2.2.2.2.2.2.2.1
theorem dX9_put_47 : decode cX9_put 47 = .ok (.ireturn, 1) := dgX9_put_1.2.2.2.2.2.2.2.2.1
theorem dX9_put_48 : decode cX9_put 48 = .ok (.aload_n 0, 1) := dgX9_put_1.2.2.2.2.2.2.2.2.2.1
theorem dX9_put_49 : decode cX9_put 49 = .ok (.getfield 9, 3) := dgX9_put_1.2.2.2.2.2.2.2.2.2.2.1
theorem dX9_put_52 : decode cX9_put 52 = .ok (.bipush 29, 2) := dgX9_put_1.2.2.2.2.2.2.2.2.2.2.2.1
theorem dX9_put_54 : decode cX9_put 54 = .ok (.iconst 5, 1) := dgX9_put_1.2.2.2.2.2.2.2.2.2.2.2.2.1
theorem dX9_put_55 : decode cX9_put 55 = .ok (.iload_n 1, 1) := dgX9_put_1.2.2.2.2.2.2.2.2.2.2.2.2.2.1
theorem dX9_put_56 : decode cX9_put 56 = .ok (.imul, 1) := dgX9_put_1.2.2.2.2.2.2.2.2.2.2.2.2.2.2.1
theorem dX9_put_57 : decode cX9_put 57 = .ok (.iadd, 1) := dgX9_put_1.2.2.2.2.2.2.2.2.2.2.2.2.2.2.2
theorem dgX9_put_2 : decode cX9_put 58 = .ok (.iconst 4, 1) ∧ decode cX9_put 59 = .ok (.iadd, 1) ∧ decode cX9_put 60 = .ok (.iload_n 3, 1) ∧ decode cX9_put 61 = .ok (.iastore, 1) ∧ decode cX9_put 62 = .ok (.aload_n 0, 1) ∧ decode cX9_put 63 = .ok (.bipush 29, 2) ∧ decode cX9_put 65 = .ok (.iconst 5, 1) ∧ decode cX9_put 66 = .ok (.iload_n 1, 1) ∧ decode cX9_put 67 = .ok (.imul, 1) ∧ decode cX9_put 68 = .ok (.iadd, 1) ∧ decode cX9_put 69 = .ok (.iconst 3, 1) ∧ decode cX9_put 70 = .ok (.iadd, 1) ∧ decode cX9_put 71 = .ok (.iload_n 2, 1) ∧ decode cX9_put 72 = .ok (.invokevirtual 140, 3) ∧ decode cX9_put 75 = .ok (.ireturn, 1) := by decide +kernel
theorem dX9_put_58 : decode cX9_put 58 = .ok (.iconst 4, 1) := dgX9_put_2.1
theorem dX9_put_59 : decode cX9_put 59 = .ok (.iadd, 1) := dgX9_put_2.2.1
theorem dX9_put_60 : decode cX9_put 60 = .ok (.iload_n 3, 1) := dgX9_put_2.2.2.1
theorem dX9_put_61 : decode cX9_put 61 = .ok (.iastore, 1) := dgX9_put_2.2.2.2.1
theorem dX9_put_62 : decode cX9_put 62 = .ok (.aload_n 0, 1) := dgX9_put_2.2.2.2.2.1
theorem dX9_put_63 : decode cX9_put 63 = .ok (.bipush 29, 2) := dgX9_put_2.2.2.2.2.2.1
theorem dX9_put_65 : decode cX9_put 65 = .ok (.iconst 5, 1) := dgX9_put_2.2.2.2.2.2.2.1
theorem dX9_put_66 : decode cX9_put 66 = .ok (.iload_n 1, 1) := dgX9_put_2.2.2.2.2.2.2.2.1
theorem dX9_put_67 : decode cX9_put 67 = .ok (.imul, 1) := dgX9_put_2.2.2.2.2.2.2.2.2.1
theorem dX9_put_68 : decode cX9_put 68 = .ok (.iadd, 1) := dgX9_put_2.2.2.2.2.2.2.2.2.2.1
theorem dX9_put_69 : decode cX9_put 69 = .ok (.iconst 3, 1) := dgX9_put_2.2.2.2.2.2.2.2.2.2.2.1
theorem dX9_put_70 : decode cX9_put 70 = .ok (.iadd, 1) := dgX9_put_2.2.2.2.2.2.2.2.2.2.2.2.1
theorem dX9_put_71 : decode cX9_put 71 = .ok (.iload_n 2, 1) := dgX9_put_2.2.2.2.2.2.2.2.2.2.2.2.2.1
theorem dX9_put_72 : decode cX9_put 72 = .ok (.invokevirtual 140, 3) := dgX9_put_2.2.2.2.2.2.2.2.2.2.2.2.2.2.1
theorem dX9_put_75 : decode cX9_put 75 = .ok (.ireturn, 1) := dgX9_put_2.2.2.2.2.2.2.2.2.2.2.2.2.2.2
abbrev pX9_put : List Nat := [0, 24, 27, 48]
def bX9_put_0 (cal : ab_F) : ab_K := o_aload 0 <| o_iload 1 <| o_callV cal 133 1 8 <| o_if (fun x => decide (x = 0)) 1 <| o_iload 2 <| o_callS cal 134 1 <| o_if (fun x => decide (x = 0)) 1 <| o_iload 3 <| o_push (.int 0) <| o_push (.int 1) <| o_callS cal 128 3 <| o_if (fun x => decide (¬ x = 0)) 2 <| o_goto 1
def bX9_put_1 (cal : ab_F) : ab_K := o_push (.int (-1000000001)) <| o_ret (some .int)
def bX9_put_2 (cal : ab_F) : ab_K := o_aload 0 <| o_iload 2 <| o_callV cal 149 1 8 <| o_istore 4 <| o_iload 4 <| o_if (fun x => decide (x < 0)) 3 <| o_iload 4 <| o_iload 1 <| o_cmp (fun x y => decide (x = y)) 3 <| o_push (.int (-1000000002)) <| o_ret (some .int)
def bX9_put_3 (cal : ab_F) : ab_K := o_aload 0 <| o_getf 8 0 <| o_push (.int 29) <| o_push (.int 5) <| o_iload 1 <| o_bin (fun x y => x * y) <| o_bin (fun x y => x + y) <| o_push (.int 4) <| o_bin (fun x y => x + y) <| o_iload 3 <| o_iast 0 (fun x => x) <| o_aload 0 <| o_push (.int 29) <| o_push (.int 5) <| o_iload 1 <| o_bin (fun x y => x * y) <| o_bin (fun x y => x + y) <| o_push (.int 3) <| o_bin (fun x y => x + y) <| o_iload 2 <| o_callV cal 136 2 8 <| o_ret (some .int)
def bX9_put (cal : ab_F) : List ab_K := [bX9_put_0 cal, bX9_put_1 cal, bX9_put_2 cal, bX9_put_3 cal]
set_option maxRecDepth 100000 in
theorem sX9_put_0 {G : ab_G} {xs : List Int32} {d : Nat} {cal : ab_F} (hcs : ab_CS G (ab_Z G xs) ab_Mf cal d) : ab_Sd G (ab_Z G xs) (d + 1) (ab_mY mX9_put pX9_put) 0 (bX9_put_0 cal) :=
  sn_aload_n dX9_put_0 rfl <| sn_iload_n dX9_put_1 rfl <| sq_callV mt_133 hcs dX9_put_2 rfl w_1119 w_1121 w_17 w_63 w_1122 hy_133 hm_133 <| sn_if_eq (tg := 24) dX9_put_5 rfl rfl <| sn_iload_n dX9_put_8 rfl <| sq_callS mt_134 hcs dX9_put_9 w_1139 w_1140 w_63 w_1141 hy_134 hm_134 <| sn_if_eq (tg := 24) dX9_put_12 rfl rfl <| sn_iload_n dX9_put_15 rfl <| sn_iconst dX9_put_16 rfl <| sn_iconst dX9_put_17 rfl <| sq_callS mt_128 hcs dX9_put_18 w_1106 w_1107 w_63 w_1108 hy_128 hm_128 <| sn_if_ne (tg := 27) dX9_put_21 rfl rfl <| sn_next rfl
set_option maxRecDepth 100000 in
theorem sX9_put_1 {G : ab_G} {xs : List Int32} {d : Nat} {cal : ab_F} (hcs : ab_CS G (ab_Z G xs) ab_Mf cal d) : ab_Sd G (ab_Z G xs) (d + 1) (ab_mY mX9_put pX9_put) 24 (bX9_put_1 cal) :=
  sn_ldc dX9_put_24 w_1109 <| sn_ret dX9_put_26 ab_ri_int
set_option maxRecDepth 100000 in
theorem sX9_put_2 {G : ab_G} {xs : List Int32} {d : Nat} {cal : ab_F} (hcs : ab_CS G (ab_Z G xs) ab_Mf cal d) : ab_Sd G (ab_Z G xs) (d + 1) (ab_mY mX9_put pX9_put) 27 (bX9_put_2 cal) :=
  sn_aload_n dX9_put_27 rfl <| sn_iload_n dX9_put_28 rfl <| sq_callV mt_149 hcs dX9_put_29 rfl w_1191 w_1193 w_27 w_63 w_1194 hy_149 hm_149 <| sn_istore dX9_put_32 (by decide) <| sn_iload dX9_put_34 <| sn_if_lt (tg := 48) dX9_put_36 rfl rfl <| sn_iload dX9_put_39 <| sn_iload_n dX9_put_41 rfl <| sn_cmp_eq (tg := 48) dX9_put_42 rfl rfl <| sn_ldc dX9_put_45 w_1195 <| sn_ret dX9_put_47 ab_ri_int
set_option maxRecDepth 100000 in
theorem sX9_put_3 {G : ab_G} {xs : List Int32} {d : Nat} {cal : ab_F} (hcs : ab_CS G (ab_Z G xs) ab_Mf cal d) : ab_Sd G (ab_Z G xs) (d + 1) (ab_mY mX9_put pX9_put) 48 (bX9_put_3 cal) :=
  sn_aload_n dX9_put_48 rfl <| sn_getf dX9_put_49 rfl hinX9 (by decide) w_991 <| sn_bipush dX9_put_52 rfl <| sn_iconst dX9_put_54 rfl <| sn_iload_n dX9_put_55 rfl <| sn_imul dX9_put_56 <| sn_iadd dX9_put_57 <| sn_iconst dX9_put_58 rfl <| sn_iadd dX9_put_59 <| sn_iload_n dX9_put_60 rfl <| sn_iast dX9_put_61 rfl rfl <| sn_aload_n dX9_put_62 rfl <| sn_bipush dX9_put_63 rfl <| sn_iconst dX9_put_65 rfl <| sn_iload_n dX9_put_66 rfl <| sn_imul dX9_put_67 <| sn_iadd dX9_put_68 <| sn_iconst dX9_put_69 rfl <| sn_iadd dX9_put_70 <| sn_iload_n dX9_put_71 rfl <| sq_callV mt_136 hcs dX9_put_72 rfl w_1183 w_1185 w_26 w_63 w_1186 hy_136 hm_136 <| sn_ret dX9_put_75 ab_ri_int
theorem sX9_put {G : ab_G} {xs : List Int32} {d : Nat} {cal : ab_F} (hcs : ab_CS G (ab_Z G xs) ab_Mf cal d) : ab_BS G (ab_Z G xs) (d + 1) (ab_mY mX9_put pX9_put) pX9_put (bX9_put cal) := ⟨sX9_put_0 hcs, sX9_put_1 hcs, sX9_put_2 hcs, sX9_put_3 hcs, trivial⟩
theorem dgX9_box_0 : decode cX9_box 0 = .ok (.aload_n 0, 1) ∧ decode cX9_box 1 = .ok (.iload_n 1, 1) ∧ decode cX9_box 2 = .ok (.invokevirtual 100, 3) ∧ decode cX9_box 5 = .ok (.ifCond .eq 20, 3) ∧ decode cX9_box 8 = .ok (.aload_n 0, 1) ∧ decode cX9_box 9 = .ok (.bipush 29, 2) ∧ decode cX9_box 11 = .ok (.iconst 5, 1) ∧ decode cX9_box 12 = .ok (.iload_n 1, 1) ∧ decode cX9_box 13 = .ok (.imul, 1) ∧ decode cX9_box 14 = .ok (.iadd, 1) ∧ decode cX9_box 15 = .ok (.iconst 3, 1) ∧ decode cX9_box 16 = .ok (.iadd, 1) ∧ decode cX9_box 17 = .ok (.bipush 12, 2) ∧ decode cX9_box 19 = .ok (.invokevirtual 140, 3) ∧ decode cX9_box 22 = .ok (.goto 5, 3) ∧ decode cX9_box 25 = .ok (.ldc 90, 2) := by decide +kernel
theorem dX9_box_0 : decode cX9_box 0 = .ok (.aload_n 0, 1) := dgX9_box_0.1
theorem dX9_box_1 : decode cX9_box 1 = .ok (.iload_n 1, 1) := dgX9_box_0.2.1
theorem dX9_box_2 : decode cX9_box 2 = .ok (.invokevirtual 100, 3) := dgX9_box_0.2.2.1
theorem dX9_box_5 : decode cX9_box 5 = .ok (.ifCond .eq 20, 3) := dgX9_box_0.2.2.2.1
theorem dX9_box_8 : decode cX9_box 8 = .ok (.aload_n 0, 1) := dgX9_box_0.2.2.2.2.1
theorem dX9_box_9 : decode cX9_box 9 = .ok (.bipush 29, 2) := dgX9_box_0.2.2.2.2.2.1
theorem dX9_box_11 : decode cX9_box 11 = .ok (.iconst 5, 1) := dgX9_box_0.2.2.2.2.2.2.1
theorem dX9_box_12 : decode cX9_box 12 = .ok (.iload_n 1, 1) := dgX9_box_0.2.2.2.2.2.2.2.1
theorem dX9_box_13 : decode cX9_box 13 = .ok (.imul, 1) := dgX9_box_0.2.2.2.2.2.2.2.2.1
theorem dX9_box_14 : decode cX9_box 14 = .ok (.iadd, 1) := dgX9_box_0.2.2.2.2.2.2.2.2.2.1
theorem dX9_box_15 : decode cX9_box 15 = .ok (.iconst 3, 1) := dgX9_box_0.2.2.2.2.2.2.2.2.2.2.1
theorem dX9_box_16 : decode cX9_box 16 = .ok (.iadd, 1) := dgX9_box_0.2.2.2.2.2.2.2.2.2.2.2.1
theorem dX9_box_17 : decode cX9_box 17 = .ok (.bipush 12, 2) := dgX9_box_0.2.2.2.2.2.2.2.2.2.2.2.2.1
theorem dX9_box_19 : decode cX9_box 19 = .ok (.invokevirtual 140, 3) := dgX9_box_0.2.2.2.2.2.2.2.2.2.2.2.2.2.1
theorem dX9_box_22 : decode cX9_box 22 = .ok (.goto 5, 3) := dgX9_box_0.2.2.2.2.2.2.2.2.2.2.2.2.2.2.1
theorem dX9_box_25 : decode cX9_box 25 = .ok (.ldc 90, 2) := dgX9_box_0.2.2.2.2.2.2.2.2.2.2.2.2.2.2.2
theorem dX9_box_27 : decode cX9_box 27 = .ok (.ireturn, 1) := by decide +kernel
abbrev pX9_box : List Nat := [0, 25, 27]
def bX9_box_0 (cal : ab_F) : ab_K := o_aload 0 <| o_iload 1 <| o_callV cal 133 1 8 <| o_if (fun x => decide (x = 0)) 1 <| o_aload 0 <| o_push (.int 29) <| o_push (.int 5) <| o_iload 1 <| o_bin (fun x y => x * y) <| o_bin (fun x y => x + y) <| o_push (.int 3) <| o_bin (fun x y => x + y) <| o_push (.int 12) <| o_callV cal 136 2 8 <| o_goto 2
def bX9_box_1 (cal : ab_F) : ab_K := o_push (.int (-1000000001)) <| o_goto 2
def bX9_box_2 (cal : ab_F) : ab_K := o_ret (some .int)
def bX9_box (cal : ab_F) : List ab_K := [bX9_box_0 cal, bX9_box_1 cal, bX9_box_2 cal]
set_option maxRecDepth 100000 in
theorem sX9_box_0 {G : ab_G} {xs : List Int32} {d : Nat} {cal : ab_F} (hcs : ab_CS G (ab_Z G xs) ab_Mf cal d) : ab_Sd G (ab_Z G xs) (d + 1) (ab_mY mX9_box pX9_box) 0 (bX9_box_0 cal) :=
  sn_aload_n dX9_box_0 rfl <| sn_iload_n dX9_box_1 rfl <| sq_callV mt_133 hcs dX9_box_2 rfl w_1119 w_1121 w_17 w_63 w_1122 hy_133 hm_133 <| sn_if_eq (tg := 25) dX9_box_5 rfl rfl <| sn_aload_n dX9_box_8 rfl <| sn_bipush dX9_box_9 rfl <| sn_iconst dX9_box_11 rfl <| sn_iload_n dX9_box_12 rfl <| sn_imul dX9_box_13 <| sn_iadd dX9_box_14 <| sn_iconst dX9_box_15 rfl <| sn_iadd dX9_box_16 <| sn_bipush dX9_box_17 rfl <| sq_callV mt_136 hcs dX9_box_19 rfl w_1183 w_1185 w_26 w_63 w_1186 hy_136 hm_136 <| sn_goto (tg := 27) dX9_box_22 rfl rfl
set_option maxRecDepth 100000 in
theorem sX9_box_1 {G : ab_G} {xs : List Int32} {d : Nat} {cal : ab_F} (hcs : ab_CS G (ab_Z G xs) ab_Mf cal d) : ab_Sd G (ab_Z G xs) (d + 1) (ab_mY mX9_box pX9_box) 25 (bX9_box_1 cal) :=
  sn_ldc dX9_box_25 w_1109 <| sn_next rfl
set_option maxRecDepth 100000 in
theorem sX9_box_2 {G : ab_G} {xs : List Int32} {d : Nat} {cal : ab_F} (hcs : ab_CS G (ab_Z G xs) ab_Mf cal d) : ab_Sd G (ab_Z G xs) (d + 1) (ab_mY mX9_box pX9_box) 27 (bX9_box_2 cal) :=
  sn_ret dX9_box_27 ab_ri_int
theorem sX9_box {G : ab_G} {xs : List Int32} {d : Nat} {cal : ab_F} (hcs : ab_CS G (ab_Z G xs) ab_Mf cal d) : ab_BS G (ab_Z G xs) (d + 1) (ab_mY mX9_box pX9_box) pX9_box (bX9_box cal) := ⟨sX9_box_0 hcs, sX9_box_1 hcs, sX9_box_2 hcs, trivial⟩
theorem dgX9_want_0 : decode cX9_want 0 = .ok (.iload_n 1, 1) ∧ decode cX9_want 1 = .ok (.iconst 0, 1) ∧ decode cX9_want 2 = .ok (.bipush 23, 2) ∧ decode cX9_want 4 = .ok (.invokestatic 86, 3) ∧ decode cX9_want 7 = .ok (.ifCond .eq 24, 3) ∧ decode cX9_want 10 = .ok (.iload_n 2, 1) ∧ decode cX9_want 11 = .ok (.iconst 0, 1) ∧ decode cX9_want 12 = .ok (.bipush 99, 2) ∧ decode cX9_want 14 = .ok (.invokestatic 86, 3) ∧ decode cX9_want 17 = .ok (.ifCond .eq 14, 3) ∧ decode cX9_want 20 = .ok (.aload_n 0, 1) ∧ decode cX9_want 21 = .ok (.iconst 5, 1) ∧ decode cX9_want 22 = .ok (.iload_n 1, 1) ∧ decode cX9_want 23 = .ok (.iadd, 1) ∧ decode cX9_want 24 = .ok (.iload_n 2, 1) ∧ decode cX9_want 25 = .ok (.invokevirtual 140, 3) := by decide +kernel
theorem dX9_want_0 : decode cX9_want 0 = .ok (.iload_n 1, 1) := dgX9_want_0.1
theorem dX9_want_1 : decode cX9_want 1 = .ok (.iconst 0, 1) := dgX9_want_0.2.1
theorem dX9_want_2 : decode cX9_want 2 = .ok (.bipush 23, 2) := dgX9_want_0.2.2.1
theorem dX9_want_4 : decode cX9_want 4 = .ok (.invokestatic 86, 3) := dgX9_want_0.2.2.2.1
theorem dX9_want_7 : decode cX9_want 7 = .ok (.ifCond .eq 24, 3) := dgX9_want_0.2.2.2.2.1
theorem dX9_want_10 : decode cX9_want 10 = .ok (.iload_n 2, 1) := dgX9_want_0.2.2.2.2.2.1
theorem dX9_want_11 : decode cX9_want 11 = .ok (.iconst 0, 1) := dgX9_want_0.2.2.2.2.2.2.1
theorem dX9_want_12 : decode cX9_want 12 = .ok (.bipush 99, 2) := dgX9_want_0.2.2.2.2.2.2.2.1
theorem dX9_want_14 : decode cX9_want 14 = .ok (.invokestatic 86, 3) := dgX9_want_0.2.2.2.2.2.2.2.2.1
theorem dX9_want_17 : decode cX9_want 17 = .ok (.ifCond .eq 14, 3) := dgX9_want_0.2.2.2.2.2.2.2.2.2.1
theorem dX9_want_20 : decode cX9_want 20 = .ok (.aload_n 0, 1) := dgX9_want_0.2.2.2.2.2.2.2.2.2.2.1
theorem dX9_want_21 : decode cX9_want 21 = .ok (.iconst 5, 1) := dgX9_want_0.2.2.2.2.2.2.2.2.2.2.2.1
theorem dX9_want_22 : decode cX9_want 22 = .ok (.iload_n 1, 1) := dgX9_want_0.2.2.2.2.2.2.2.2.2.2.2.2.1
theorem dX9_want_23 : decode cX9_want 23 = .ok (.iadd, 1) := dgX9_want_0.2.2.2.2.2.2.2.2.2.2.2.2.2.1
theorem dX9_want_24 : decode cX9_want 24 = .ok (.iload_n 2, 1) := dgX9_want_0.2.2.2.2.2.2.2.2.2.2.2.2.2.2.1
theorem dX9_want_25 : decode cX9_want 25 = .ok (.invokevirtual 140, 3) := dgX9_want_0.2.2.2.2.2.2.2.2.2.2.2.2.2.2.2
theorem dgX9_want_1 : decode cX9_want 28 = .ok (.goto 5, 3) ∧ decode cX9_want 31 = .ok (.ldc 90, 2) ∧ decode cX9_want 33 = .ok (.ireturn, 1) := by decide +kernel
theorem dX9_want_28 : decode cX9_want 28 = .ok (.goto 5, 3) := dgX9_want_1.1
theorem dX9_want_31 : decode cX9_want 31 = .ok (.ldc 90, 2) := dgX9_want_1.2.1
theorem dX9_want_33 : decode cX9_want 33 = .ok (.ireturn, 1) := dgX9_want_1.2.2
abbrev pX9_want : List Nat := [0, 31, 33]
def bX9_want_0 (cal : ab_F) : ab_K := o_iload 1 <| o_push (.int 0) <| o_push (.int 23) <| o_callS cal 128 3 <| o_if (fun x => decide (x = 0)) 1 <| o_iload 2 <| o_push (.int 0) <| o_push (.int 99) <| o_callS cal 128 3 <| o_if (fun x => decide (x = 0)) 1 <| o_aload 0 <| o_push (.int 5) <| o_iload 1 <| o_bin (fun x y => x + y) <| o_iload 2 <| o_callV cal 136 2 8 <| o_goto 2
def bX9_want_1 (cal : ab_F) : ab_K := o_push (.int (-1000000001)) <| o_goto 2
def bX9_want_2 (cal : ab_F) : ab_K := o_ret (some .int)
def bX9_want (cal : ab_F) : List ab_K := [bX9_want_0 cal, bX9_want_1 cal, bX9_want_2 cal]
set_option maxRecDepth 100000 in
theorem sX9_want_0 {G : ab_G} {xs : List Int32} {d : Nat} {cal : ab_F} (hcs : ab_CS G (ab_Z G xs) ab_Mf cal d) : ab_Sd G (ab_Z G xs) (d + 1) (ab_mY mX9_want pX9_want) 0 (bX9_want_0 cal) :=
  sn_iload_n dX9_want_0 rfl <| sn_iconst dX9_want_1 rfl <| sn_bipush dX9_want_2 rfl <| sq_callS mt_128 hcs dX9_want_4 w_1106 w_1107 w_63 w_1108 hy_128 hm_128 <| sn_if_eq (tg := 31) dX9_want_7 rfl rfl <| sn_iload_n dX9_want_10 rfl <| sn_iconst dX9_want_11 rfl <| sn_bipush dX9_want_12 rfl <| sq_callS mt_128 hcs dX9_want_14 w_1106 w_1107 w_63 w_1108 hy_128 hm_128 <| sn_if_eq (tg := 31) dX9_want_17 rfl rfl <| sn_aload_n dX9_want_20 rfl <| sn_iconst dX9_want_21 rfl <| sn_iload_n dX9_want_22 rfl <| sn_iadd dX9_want_23 <| sn_iload_n dX9_want_24 rfl <| sq_callV mt_136 hcs dX9_want_25 rfl w_1183 w_1185 w_26 w_63 w_1186 hy_136 hm_136 <| sn_goto (tg := 33) dX9_want_28 rfl rfl
set_option maxRecDepth 100000 in
theorem sX9_want_1 {G : ab_G} {xs : List Int32} {d : Nat} {cal : ab_F} (hcs : ab_CS G (ab_Z G xs) ab_Mf cal d) : ab_Sd G (ab_Z G xs) (d + 1) (ab_mY mX9_want pX9_want) 31 (bX9_want_1 cal) :=
  sn_ldc dX9_want_31 w_1109 <| sn_next rfl
set_option maxRecDepth 100000 in
theorem sX9_want_2 {G : ab_G} {xs : List Int32} {d : Nat} {cal : ab_F} (hcs : ab_CS G (ab_Z G xs) ab_Mf cal d) : ab_Sd G (ab_Z G xs) (d + 1) (ab_mY mX9_want pX9_want) 33 (bX9_want_2 cal) :=
  sn_ret dX9_want_33 ab_ri_int
theorem sX9_want {G : ab_G} {xs : List Int32} {d : Nat} {cal : ab_F} (hcs : ab_CS G (ab_Z G xs) ab_Mf cal d) : ab_BS G (ab_Z G xs) (d + 1) (ab_mY mX9_want pX9_want) pX9_want (bX9_want cal) := ⟨sX9_want_0 hcs, sX9_want_1 hcs, sX9_want_2 hcs, trivial⟩
theorem dgX9_wind_0 : decode cX9_wind 0 = .ok (.iload_n 1, 1) ∧ decode cX9_wind 1 = .ok (.iconst 0, 1) ∧ decode cX9_wind 2 = .ok (.bipush 100, 2) ∧ decode cX9_wind 4 = .ok (.invokestatic 86, 3) ∧ decode cX9_wind 7 = .ok (.ifCond .eq 12, 3) ∧ decode cX9_wind 10 = .ok (.aload_n 0, 1) ∧ decode cX9_wind 11 = .ok (.iconst 3, 1) ∧ decode cX9_wind 12 = .ok (.iload_n 1, 1) ∧ decode cX9_wind 13 = .ok (.invokevirtual 140, 3) ∧ decode cX9_wind 16 = .ok (.goto 5, 3) ∧ decode cX9_wind 19 = .ok (.ldc 90, 2) ∧ decode cX9_wind 21 = .ok (.ireturn, 1) := by decide +kernel
theorem dX9_wind_0 : decode cX9_wind 0 = .ok (.iload_n 1, 1) := dgX9_wind_0.1
theorem dX9_wind_1 : decode cX9_wind 1 = .ok (.iconst 0, 1) := dgX9_wind_0.2.1
theorem dX9_wind_2 : decode cX9_wind 2 = .ok (.bipush 100, 2) := dgX9_wind_0.2.2.1
theorem dX9_wind_4 : decode cX9_wind 4 = .ok (.invokestatic 86, 3) := dgX9_wind_0.2.2.2.1
theorem dX9_wind_7 : decode cX9_wind 7 = .ok (.ifCond .eq 12, 3) := dgX9_wind_0.2.2.2.2.1
theorem dX9_wind_10 : decode cX9_wind 10 = .ok (.aload_n 0, 1) := dgX9_wind_0.2.2.2.2.2.1
theorem dX9_wind_11 : decode cX9_wind 11 = .ok (.iconst 3, 1) := dgX9_wind_0.2.2.2.2.2.2.1
theorem dX9_wind_12 : decode cX9_wind 12 = .ok (.iload_n 1, 1) := dgX9_wind_0.2.2.2.2.2.2.2.1
theorem dX9_wind_13 : decode cX9_wind 13 = .ok (.invokevirtual 140, 3) := dgX9_wind_0.2.2.2.2.2.2.2.2.1
theorem dX9_wind_16 : decode cX9_wind 16 = .ok (.goto 5, 3) := dgX9_wind_0.2.2.2.2.2.2.2.2.2.1
theorem dX9_wind_19 : decode cX9_wind 19 = .ok (.ldc 90, 2) := dgX9_wind_0.2.2.2.2.2.2.2.2.2.2.1
theorem dX9_wind_21 : decode cX9_wind 21 = .ok (.ireturn, 1) := dgX9_wind_0.2.2.2.2.2.2.2.2.2.2.2
abbrev pX9_wind : List Nat := [0, 19, 21]
def bX9_wind_0 (cal : ab_F) : ab_K := o_iload 1 <| o_push (.int 0) <| o_push (.int 100) <| o_callS cal 128 3 <| o_if (fun x => decide (x = 0)) 1 <| o_aload 0 <| o_push (.int 3) <| o_iload 1 <| o_callV cal 136 2 8 <| o_goto 2
def bX9_wind_1 (cal : ab_F) : ab_K := o_push (.int (-1000000001)) <| o_goto 2
def bX9_wind_2 (cal : ab_F) : ab_K := o_ret (some .int)
def bX9_wind (cal : ab_F) : List ab_K := [bX9_wind_0 cal, bX9_wind_1 cal, bX9_wind_2 cal]
set_option maxRecDepth 100000 in
theorem sX9_wind_0 {G : ab_G} {xs : List Int32} {d : Nat} {cal : ab_F} (hcs : ab_CS G (ab_Z G xs) ab_Mf cal d) : ab_Sd G (ab_Z G xs) (d + 1) (ab_mY mX9_wind pX9_wind) 0 (bX9_wind_0 cal) :=
  sn_iload_n dX9_wind_0 rfl <| sn_iconst dX9_wind_1 rfl <| sn_bipush dX9_wind_2 rfl <| sq_callS mt_128 hcs dX9_wind_4 w_1106 w_1107 w_63 w_1108 hy_128 hm_128 <| sn_if_eq (tg := 19) dX9_wind_7 rfl rfl <| sn_aload_n dX9_wind_10 rfl <| sn_iconst dX9_wind_11 rfl <| sn_iload_n dX9_wind_12 rfl <| sq_callV mt_136 hcs dX9_wind_13 rfl w_1183 w_1185 w_26 w_63 w_1186 hy_136 hm_136 <| sn_goto (tg := 21) dX9_wind_16 rfl rfl
set_option maxRecDepth 100000 in
theorem sX9_wind_1 {G : ab_G} {xs : List Int32} {d : Nat} {cal : ab_F} (hcs : ab_CS G (ab_Z G xs) ab_Mf cal d) : ab_Sd G (ab_Z G xs) (d + 1) (ab_mY mX9_wind pX9_wind) 19 (bX9_wind_1 cal) :=
  sn_ldc dX9_wind_19 w_1109 <| sn_next rfl
set_option maxRecDepth 100000 in
theorem sX9_wind_2 {G : ab_G} {xs : List Int32} {d : Nat} {cal : ab_F} (hcs : ab_CS G (ab_Z G xs) ab_Mf cal d) : ab_Sd G (ab_Z G xs) (d + 1) (ab_mY mX9_wind pX9_wind) 21 (bX9_wind_2 cal) :=
  sn_ret dX9_wind_21 ab_ri_int
theorem sX9_wind {G : ab_G} {xs : List Int32} {d : Nat} {cal : ab_F} (hcs : ab_CS G (ab_Z G xs) ab_Mf cal d) : ab_BS G (ab_Z G xs) (d + 1) (ab_mY mX9_wind pX9_wind) pX9_wind (bX9_wind cal) := ⟨sX9_wind_0 hcs, sX9_wind_1 hcs, sX9_wind_2 hcs, trivial⟩
theorem dgX9_draw_0 : decode cX9_draw 0 = .ok (.aload_n 0, 1) ∧ decode cX9_draw 1 = .ok (.getfield 9, 3) ∧ decode cX9_draw 4 = .ok (.iconst 0, 1) ∧ decode cX9_draw 5 = .ok (.aload_n 0, 1) ∧ decode cX9_draw 6 = .ok (.getfield 9, 3) ∧ decode cX9_draw 9 = .ok (.iconst 0, 1) ∧ decode cX9_draw 10 = .ok (.iaload, 1) ∧ decode cX9_draw 11 = .ok (.ldc 147, 2) ∧ decode cX9_draw 13 = .ok (.imul, 1) ∧ decode cX9_draw 14 = .ok (.sipush 12345, 3) ∧ decode cX9_draw 17 = .ok (.iadd, 1) ∧ decode cX9_draw 18 = .ok (.iastore, 1) ∧ decode cX9_draw 19 = .ok (.aload_n 0, 1) ∧ decode cX9_draw 20 = .ok (.getfield 9, 3) ∧ decode cX9_draw 23 = .ok (.iconst 0, 1) ∧ decode cX9_draw 24 = .ok (.iaload, 1) := by decide +kernel
theorem dX9_draw_0 : decode cX9_draw 0 = .ok (.aload_n 0, 1) := dgX9_draw_0.1
theorem dX9_draw_1 : decode cX9_draw 1 = .ok (.getfield 9, 3) := dgX9_draw_0.2.1
theorem dX9_draw_4 : decode cX9_draw 4 = .ok (.iconst 0, 1) := dgX9_draw_0.2.2.1
theorem dX9_draw_5 : decode cX9_draw 5 = .ok (.aload_n 0, 1) := dgX9_draw_0.2.2.2.1
theorem dX9_draw_6 : decode cX9_draw 6 = .ok (.getfield 9, 3) := dgX9_draw_0.2.2.2.2.1
theorem dX9_draw_9 : decode cX9_draw 9 = .ok (.iconst 0, 1) := dgX9_draw_0.2.2.2.2.2.1
theorem dX9_draw_10 : decode cX9_draw 10 = .ok (.iaload, 1) := dgX9_draw_0.2.2.2.2.2.2.1
theorem dX9_draw_11 : decode cX9_draw 11 = .ok (.ldc 147, 2) := dgX9_draw_0.2.2.2.2.2.2.2.1
theorem dX9_draw_13 : decode cX9_draw 13 = .ok (.imul, 1) := dgX9_draw_0.2.2.2.2.2.2.2.2.1
theorem dX9_draw_14 : decode cX9_draw 14 = .ok (.sipush 12345, 3) := dgX9_draw_0.2.2.2.2.2.2.2.2.2.1
theorem dX9_draw_17 : decode cX9_draw 17 = .ok (.iadd, 1) := dgX9_draw_0.2.2.2.2.2.2.2.2.2.2.1
theorem dX9_draw_18 : decode cX9_draw 18 = .ok (.iastore, 1) := dgX9_draw_0.2.2.2.2.2.2.2.2.2.2.2.1
theorem dX9_draw_19 : decode cX9_draw 19 = .ok (.aload_n 0, 1) := dgX9_draw_0.2.2.2.2.2.2.2.2.2.2.2.2.1
theorem dX9_draw_20 : decode cX9_draw 20 = .ok (.getfield 9, 3) := dgX9_draw_0.2.2.2.2.2.2.2.2.2.2.2.2.2.1
theorem dX9_draw_23 : decode cX9_draw 23 = .ok (.iconst 0, 1) := dgX9_draw_0.2.2.2.2.2.2.2.2.2.2.2.2.2.2.1
theorem dX9_draw_24 : decode cX9_draw 24 = .ok (.iaload, 1) := dgX9_draw_0.2.2.2.2.2.2.2.2.2.2.2.2.2.2.2
theorem dgX9_draw_1 : decode cX9_draw 25 = .ok (.bipush 8, 2) ∧ decode cX9_draw 27 = .ok (.iushr, 1) ∧ decode cX9_draw 28 = .ok (.ireturn, 1) := by decide +kernel
theorem dX9_draw_25 : decode cX9_draw 25 = .ok (.bipush 8, 2) := dgX9_draw_1.1
theorem dX9_draw_27 : decode cX9_draw 27 = .ok (.iushr, 1) := dgX9_draw_1.2.1
theorem dX9_draw_28 : decode cX9_draw 28 = .ok (.ireturn, 1) := dgX9_draw_1.2.2
abbrev pX9_draw : List Nat := [0]
def bX9_draw_0 (cal : ab_F) : ab_K := o_aload 0 <| o_getf 8 0 <| o_push (.int 0) <| o_aload 0 <| o_getf 8 0 <| o_push (.int 0) <| o_iald 0 <| o_push (.int 1103515245) <| o_bin (fun x y => x * y) <| o_push (.int 12345) <| o_bin (fun x y => x + y) <| o_iast 0 (fun x => x) <| o_aload 0 <| o_getf 8 0 <| o_push (.int 0) <| o_iald 0 <| o_push (.int 8) <| o_bin (fun x y => (x.toUInt32 >>> (y.toUInt32 &&& Int32.toUInt32 31)).toInt32) <| o_ret (some .int)
def bX9_draw (cal : ab_F) : List ab_K := [bX9_draw_0 cal]
set_option maxRecDepth 100000 in
theorem sX9_draw_0 {G : ab_G} {xs : List Int32} {d : Nat} {cal : ab_F} (hcs : ab_CS G (ab_Z G xs) ab_Mf cal d) : ab_Sd G (ab_Z G xs) (d + 1) (ab_mY mX9_draw pX9_draw) 0 (bX9_draw_0 cal) :=
  sn_aload_n dX9_draw_0 rfl <| sn_getf dX9_draw_1 rfl hinX9 (by decide) w_991 <| sn_iconst dX9_draw_4 rfl <| sn_aload_n dX9_draw_5 rfl <| sn_getf dX9_draw_6 rfl hinX9 (by decide) w_991 <| sn_iconst dX9_draw_9 rfl <| sn_iald dX9_draw_10 rfl <| sn_ldc dX9_draw_11 w_1216 <| sn_imul dX9_draw_13 <| sn_sipush dX9_draw_14 rfl <| sn_iadd dX9_draw_17 <| sn_iast dX9_draw_18 rfl rfl <| sn_aload_n dX9_draw_19 rfl <| sn_getf dX9_draw_20 rfl hinX9 (by decide) w_991 <| sn_iconst dX9_draw_23 rfl <| sn_iald dX9_draw_24 rfl <| sn_bipush dX9_draw_25 rfl <| sn_iushr dX9_draw_27 <| sn_ret dX9_draw_28 ab_ri_int
theorem sX9_draw {G : ab_G} {xs : List Int32} {d : Nat} {cal : ab_F} (hcs : ab_CS G (ab_Z G xs) ab_Mf cal d) : ab_BS G (ab_Z G xs) (d + 1) (ab_mY mX9_draw pX9_draw) pX9_draw (bX9_draw cal) := ⟨sX9_draw_0 hcs, trivial⟩
theorem dgX9_deal_0 : decode cX9_deal 0 = .ok (.iload_n 1, 1) ∧ decode cX9_deal 1 = .ok (.iconst 1, 1) ∧ decode cX9_deal 2 = .ok (.bipush 12, 2) ∧ decode cX9_deal 4 = .ok (.invokestatic 86, 3) ∧ decode cX9_deal 7 = .ok (.ifCond .ne 6, 3) ∧ decode cX9_deal 10 = .ok (.ldc 90, 2) ∧ decode cX9_deal 12 = .ok (.ireturn, 1) ∧ decode cX9_deal 13 = .ok (.iconst 0, 1) ∧ decode cX9_deal 14 = .ok (.istore_n 2, 1) ∧ decode cX9_deal 15 = .ok (.iload_n 2, 1) ∧ decode cX9_deal 16 = .ok (.iload_n 1, 1) ∧ decode cX9_deal 17 = .ok (.if_icmp .ge 53, 3) ∧ decode cX9_deal 20 = .ok (.aload_n 0, 1) ∧ decode cX9_deal 21 = .ok (.getfield 9, 3) ∧ decode cX9_deal 24 = .ok (.iconst 1, 1) ∧ decode cX9_deal 25 = .ok (.iaload, 1) := by decide +kernel
theorem dX9_deal_0 : decode cX9_deal 0 = .ok (.iload_n 1, 1) := dgX9_deal_0.1
theorem dX9_deal_1 : decode cX9_deal 1 = .ok (.iconst 1, 1) := dgX9_deal_0.2.1
theorem dX9_deal_2 : decode cX9_deal 2 = .ok (.bipush 12, 2) := dgX9_deal_0.2.2.1
theorem dX9_deal_4 : decode cX9_deal 4 = .ok (.invokestatic 86, 3) := dgX9_deal_0.2.2.2.1
theorem dX9_deal_7 : decode cX9_deal 7 = .ok (.ifCond .ne 6, 3) := dgX9_deal_0.2.2.2.2.1
theorem dX9_deal_10 : decode cX9_deal 10 = .ok (.ldc 90, 2) := dgX9_deal_0.2.2.2.2.2.1
theorem dX9_deal_12 : decode cX9_deal 12 = .ok (.ireturn, 1) := dgX9_deal_0.2.2.2.2.2.2.1
theorem dX9_deal_13 : decode cX9_deal 13 = .ok (.iconst 0, 1) := dgX9_deal_0.2.2.2.2.2.2.2.1
theorem dX9_deal_14 : decode cX9_deal 14 = .ok (.istore_n 2, 1) := dgX9_deal_0.2.2.2.2.2.2.2.2.1
theorem dX9_deal_15 : decode cX9_deal 15 = .ok (.iload_n 2, 1) := dgX9_deal_0.2.2.2.2.2.2.2.2.2.1
theorem dX9_deal_16 : decode cX9_deal 16 = .ok (.iload_n 1, 1) := dgX9_deal_0.2.2.2.2.2.2.2.2.2.2.1
theorem dX9_deal_17 : decode cX9_deal 17 = .ok (.if_icmp .ge 53, 3) := dgX9_deal_0.2.2.2.2.2.2.2.2.2.2.2.1
theorem dX9_deal_20 : decode cX9_deal 20 = .ok (.aload_n 0, 1) := dgX9_deal_0.2.2.2.2.2.2.2.2.2.2.2.2.1
theorem dX9_deal_21 : decode cX9_deal 21 = .ok (.getfield 9, 3) := dgX9_deal_0.2.2.2.2.2.2.2.2.2.2.2.2.2.1
theorem dX9_deal_24 : decode cX9_deal 24 = .ok (.iconst 1, 1) := dgX9_deal_0.2.2.2.2.2.2.2.2.2.2.2.2.2.2.1
theorem dX9_deal_25 : decode cX9_deal 25 = .ok (.iaload, 1) := dgX9_deal_0.2.2.2.2.2.2.2.2.2.2.2.2.2.2.2
theorem dgX9_deal_1 : decode cX9_deal 26 = .ok (.bipush 12, 2) ∧ decode cX9_deal 28 = .ok (.if_icmp .ge 42, 3) ∧ decode cX9_deal 31 = .ok (.aload_n 0, 1) ∧ decode cX9_deal 32 = .ok (.invokevirtual 148, 3) ∧ decode cX9_deal 35 = .ok (.bipush 6, 2) ∧ decode cX9_deal 37 = .ok (.irem, 1) ∧ decode cX9_deal 38 = .ok (.istore_n 3, 1) ∧ decode cX9_deal 39 = .ok (.aload_n 0, 1) ∧ decode cX9_deal 40 = .ok (.invokevirtual 148, 3) ∧ decode cX9_deal 43 = .ok (.bipush 7, 2) ∧ decode cX9_deal 45 = .ok (.irem, 1) ∧ decode cX9_deal 46 = .ok (.istore 4, 2) ∧ decode cX9_deal 48 = .ok (.aload_n 0, 1) ∧ decode cX9_deal 49 = .ok (.iload_n 3, 1) ∧ decode cX9_deal 50 = .ok (.iload 4, 2) ∧ decode cX9_deal 52 = .ok (.aload_n 0, 1) := by decide +kernel
theorem dX9_deal_26 : decode cX9_deal 26 = .ok (.bipush 12, 2) := dgX9_deal_1.1
theorem dX9_deal_28 : decode cX9_deal 28 = .ok (.if_icmp .ge 42, 3) := dgX9_deal_1.2.1
theorem dX9_deal_31 : decode cX9_deal 31 = .ok (.aload_n 0, 1) := dgX9_deal_1.2.2.1
theorem dX9_deal_32 : decode cX9_deal 32 = .ok (.invokevirtual 148, 3) := dgX9_deal_1.2.2.2.1
theorem dX9_deal_35 : decode cX9_deal 35 = .ok (.bipush 6, 2) := dgX9_deal_1.2.2.2.2.1
theorem dX9_deal_37 : decode cX9_deal 37 = .ok (.irem, 1) := dgX9_deal_1.2.2.2.2.2.1
theorem dX9_deal_38 : decode cX9_deal 38 = .ok (.istore_n 3, 1) := dgX9_deal_1.2.2.2.2.2.2.1
theorem dX9_deal_39 : decode cX9_deal 39 = .ok (.aload_n 0, 1) := dgX9_deal_1.2.2.2.2.2.2.2.1
theorem dX9_deal_40 : decode cX9_deal 40 = .ok (.invokevirtual 148, 3) := dgX9_deal_1.2.2.2.2.2.2.2.2.1
theorem dX9_deal_43 : decode cX9_deal 43 = .ok (.bipush 7, 2) := dgX9_deal_1.2.2.2.2.2.2.2.2.2.1
theorem dX9_deal_45 : decode cX9_deal 45 = .ok (.irem, 1) := dgX9_deal_1.2.2.2.2.2.2.2.2.2.2.1
theorem dX9_deal_46 : decode cX9_deal 46 = .ok (.istore 4, 2) := dgX9_deal_1.2.2.2.2.2.2.2.2.2.2.2.1
theorem dX9_deal_48 : decode cX9_deal 48 = .ok (.aload_n 0, 1) := dgX9_deal_1.2.2.2.2.2.2.2.2.2.2.2.2.1
theorem dX9_deal_49 : decode cX9_deal 49 = .ok (.iload_n 3, 1) := dgX9_deal_1.2.2.2.2.2.2.2.2.2.2.2.2.2.1
theorem dX9_deal_50 : decode cX9_deal 50 = .ok (.iload 4, 2) := dgX9_deal_1.2.2.2.2.2.2.2.2.2.2.2.2.2.2.1
theorem dX9_deal_52 : decode cX9_deal 52 = .ok (.aload_n 0, 1) := dgX9_deal_1.2.2.2.2.2.2.2.2.2.2.2.2.2.2.2
theorem dgX9_deal_2 : decode cX9_deal 53 = .ok (.invokevirtual 148, 3) ∧ decode cX9_deal 56 = .ok (.bipush 7, 2) ∧ decode cX9_deal 58 = .ok (.irem, 1) ∧ decode cX9_deal 59 = .ok (.invokevirtual 92, 3) ∧ decode cX9_deal 62 = .ok (.istore 5, 2) ∧ decode cX9_deal 64 = .ok (.iinc 2 1, 3) ∧ decode cX9_deal 67 = .ok (.goto (-52), 3) ∧ decode cX9_deal 70 = .ok (.iload_n 2, 1) ∧ decode cX9_deal 71 = .ok (.ireturn, 1) := by decide +kernel
theorem dX9_deal_53 : decode cX9_deal 53 = .ok (.invokevirtual 148, 3) := dgX9_deal_2.1
theorem dX9_deal_56 : decode cX9_deal 56 = .ok (.bipush 7, 2) := dgX9_deal_2.2.1
theorem dX9_deal_58 : decode cX9_deal 58 = .ok (.irem, 1) := dgX9_deal_2.2.2.1
theorem dX9_deal_59 : decode cX9_deal 59 = .ok (.invokevirtual 92, 3) := dgX9_deal_2.2.2.2.1
theorem dX9_deal_62 : decode cX9_deal 62 = .ok (.istore 5, 2) := dgX9_deal_2.2.2.2.2.1
theorem dX9_deal_64 : decode cX9_deal 64 = .ok (.iinc 2 1, 3) := dgX9_deal_2.2.2.2.2.2.1
theorem dX9_deal_67 : decode cX9_deal 67 = .ok (.goto (-52), 3) := dgX9_deal_2.2.2.2.2.2.2.1
theorem dX9_deal_70 : decode cX9_deal 70 = .ok (.iload_n 2, 1) := dgX9_deal_2.2.2.2.2.2.2.2.1
theorem dX9_deal_71 : decode cX9_deal 71 = .ok (.ireturn, 1) := dgX9_deal_2.2.2.2.2.2.2.2.2
abbrev pX9_deal : List Nat := [0, 13, 15, 70]
def bX9_deal_0 (cal : ab_F) : ab_K := o_iload 1 <| o_push (.int 1) <| o_push (.int 12) <| o_callS cal 128 3 <| o_if (fun x => decide (¬ x = 0)) 1 <| o_push (.int (-1000000001)) <| o_ret (some .int)
def bX9_deal_1 (cal : ab_F) : ab_K := o_push (.int 0) <| o_istore 2 <| o_goto 2
def bX9_deal_2 (cal : ab_F) : ab_K := o_iload 2 <| o_iload 1 <| o_cmp (fun x y => decide (y ≤ x)) 3 <| o_aload 0 <| o_getf 8 0 <| o_push (.int 1) <| o_iald 0 <| o_push (.int 12) <| o_cmp (fun x y => decide (y ≤ x)) 3 <| o_aload 0 <| o_callV cal 154 0 8 <| o_push (.int 6) <| o_div (fun x y => x - x / y * y) <| o_istore 3 <| o_aload 0 <| o_callV cal 154 0 8 <| o_push (.int 7) <| o_div (fun x y => x - x / y * y) <| o_istore 4 <| o_aload 0 <| o_iload 3 <| o_iload 4 <| o_aload 0 <| o_callV cal 154 0 8 <| o_push (.int 7) <| o_div (fun x y => x - x / y * y) <| o_callV cal 137 3 8 <| o_istore 5 <| o_iinc 2 1 <| o_goto 2
def bX9_deal_3 (cal : ab_F) : ab_K := o_iload 2 <| o_ret (some .int)
def bX9_deal (cal : ab_F) : List ab_K := [bX9_deal_0 cal, bX9_deal_1 cal, bX9_deal_2 cal, bX9_deal_3 cal]
set_option maxRecDepth 100000 in
theorem sX9_deal_0 {G : ab_G} {xs : List Int32} {d : Nat} {cal : ab_F} (hcs : ab_CS G (ab_Z G xs) ab_Mf cal d) : ab_Sd G (ab_Z G xs) (d + 1) (ab_mY mX9_deal pX9_deal) 0 (bX9_deal_0 cal) :=
  sn_iload_n dX9_deal_0 rfl <| sn_iconst dX9_deal_1 rfl <| sn_bipush dX9_deal_2 rfl <| sq_callS mt_128 hcs dX9_deal_4 w_1106 w_1107 w_63 w_1108 hy_128 hm_128 <| sn_if_ne (tg := 13) dX9_deal_7 rfl rfl <| sn_ldc dX9_deal_10 w_1109 <| sn_ret dX9_deal_12 ab_ri_int
set_option maxRecDepth 100000 in
theorem sX9_deal_1 {G : ab_G} {xs : List Int32} {d : Nat} {cal : ab_F} (hcs : ab_CS G (ab_Z G xs) ab_Mf cal d) : ab_Sd G (ab_Z G xs) (d + 1) (ab_mY mX9_deal pX9_deal) 13 (bX9_deal_1 cal) :=
  sn_iconst dX9_deal_13 rfl <| sn_istore_n dX9_deal_14 rfl (by decide) <| sn_next rfl
set_option maxRecDepth 100000 in
theorem sX9_deal_2 {G : ab_G} {xs : List Int32} {d : Nat} {cal : ab_F} (hcs : ab_CS G (ab_Z G xs) ab_Mf cal d) : ab_Sd G (ab_Z G xs) (d + 1) (ab_mY mX9_deal pX9_deal) 15 (bX9_deal_2 cal) :=
  sn_iload_n dX9_deal_15 rfl <| sn_iload_n dX9_deal_16 rfl <| sn_cmp_ge (tg := 70) dX9_deal_17 rfl rfl <| sn_aload_n dX9_deal_20 rfl <| sn_getf dX9_deal_21 rfl hinX9 (by decide) w_991 <| sn_iconst dX9_deal_24 rfl <| sn_iald dX9_deal_25 rfl <| sn_bipush dX9_deal_26 rfl <| sn_cmp_ge (tg := 70) dX9_deal_28 rfl rfl <| sn_aload_n dX9_deal_31 rfl <| sq_callV mt_154 hcs dX9_deal_32 rfl w_1212 w_1214 w_28 w_63 w_1215 hy_154 hm_154 <| sn_bipush dX9_deal_35 rfl <| sn_irem dX9_deal_37 <| sn_istore_n dX9_deal_38 rfl (by decide) <| sn_aload_n dX9_deal_39 rfl <| sq_callV mt_154 hcs dX9_deal_40 rfl w_1212 w_1214 w_28 w_63 w_1215 hy_154 hm_154 <| sn_bipush dX9_deal_43 rfl <| sn_irem dX9_deal_45 <| sn_istore dX9_deal_46 (by decide) <| sn_aload_n dX9_deal_48 rfl <| sn_iload_n dX9_deal_49 rfl <| sn_iload dX9_deal_50 <| sn_aload_n dX9_deal_52 rfl <| sq_callV mt_154 hcs dX9_deal_53 rfl w_1212 w_1214 w_28 w_63 w_1215 hy_154 hm_154 <| sn_bipush dX9_deal_56 rfl <| sn_irem dX9_deal_58 <| sq_callV mt_137 hcs dX9_deal_59 rfl w_1111 w_1113 w_16 w_63 w_1114 hy_137 hm_137 <| sn_istore dX9_deal_62 (by decide) <| sn_iinc dX9_deal_64 rfl (by decide) <| sn_goto (tg := 15) dX9_deal_67 rfl rfl
set_option maxRecDepth 100000 in
theorem sX9_deal_3 {G : ab_G} {xs : List Int32} {d : Nat} {cal : ab_F} (hcs : ab_CS G (ab_Z G xs) ab_Mf cal d) : ab_Sd G (ab_Z G xs) (d + 1) (ab_mY mX9_deal pX9_deal) 70 (bX9_deal_3 cal) :=
  sn_iload_n dX9_deal_70 rfl <| sn_ret dX9_deal_71 ab_ri_int
theorem sX9_deal {G : ab_G} {xs : List Int32} {d : Nat} {cal : ab_F} (hcs : ab_CS G (ab_Z G xs) ab_Mf cal d) : ab_BS G (ab_Z G xs) (d + 1) (ab_mY mX9_deal pX9_deal) pX9_deal (bX9_deal cal) := ⟨sX9_deal_0 hcs, sX9_deal_1 hcs, sX9_deal_2 hcs, sX9_deal_3 hcs, trivial⟩
theorem dgX9_seed_0 : decode cX9_seed 0 = .ok (.aload_n 0, 1) ∧ decode cX9_seed 1 = .ok (.iconst 0, 1) ∧ decode cX9_seed 2 = .ok (.iload_n 1, 1) ∧ decode cX9_seed 3 = .ok (.invokevirtual 140, 3) ∧ decode cX9_seed 6 = .ok (.ireturn, 1) := by decide +kernel
theorem dX9_seed_0 : decode cX9_seed 0 = .ok (.aload_n 0, 1) := dgX9_seed_0.1
theorem dX9_seed_1 : decode cX9_seed 1 = .ok (.iconst 0, 1) := dgX9_seed_0.2.1
theorem dX9_seed_2 : decode cX9_seed 2 = .ok (.iload_n 1, 1) := dgX9_seed_0.2.2.1
theorem dX9_seed_3 : decode cX9_seed 3 = .ok (.invokevirtual 140, 3) := dgX9_seed_0.2.2.2.1
theorem dX9_seed_6 : decode cX9_seed 6 = .ok (.ireturn, 1) := dgX9_seed_0.2.2.2.2
abbrev pX9_seed : List Nat := [0]
def bX9_seed_0 (cal : ab_F) : ab_K := o_aload 0 <| o_push (.int 0) <| o_iload 1 <| o_callV cal 136 2 8 <| o_ret (some .int)
def bX9_seed (cal : ab_F) : List ab_K := [bX9_seed_0 cal]
set_option maxRecDepth 100000 in
theorem sX9_seed_0 {G : ab_G} {xs : List Int32} {d : Nat} {cal : ab_F} (hcs : ab_CS G (ab_Z G xs) ab_Mf cal d) : ab_Sd G (ab_Z G xs) (d + 1) (ab_mY mX9_seed pX9_seed) 0 (bX9_seed_0 cal) :=
  sn_aload_n dX9_seed_0 rfl <| sn_iconst dX9_seed_1 rfl <| sn_iload_n dX9_seed_2 rfl <| sq_callV mt_136 hcs dX9_seed_3 rfl w_1183 w_1185 w_26 w_63 w_1186 hy_136 hm_136 <| sn_ret dX9_seed_6 ab_ri_int
theorem sX9_seed {G : ab_G} {xs : List Int32} {d : Nat} {cal : ab_F} (hcs : ab_CS G (ab_Z G xs) ab_Mf cal d) : ab_BS G (ab_Z G xs) (d + 1) (ab_mY mX9_seed pX9_seed) pX9_seed (bX9_seed cal) := ⟨sX9_seed_0 hcs, trivial⟩
theorem dgX9_manyLaid_0 : decode cX9_manyLaid 0 = .ok (.iconst 0, 1) ∧ decode cX9_manyLaid 1 = .ok (.istore_n 1, 1) ∧ decode cX9_manyLaid 2 = .ok (.iconst 0, 1) ∧ decode cX9_manyLaid 3 = .ok (.istore_n 2, 1) ∧ decode cX9_manyLaid 4 = .ok (.iload_n 2, 1) ∧ decode cX9_manyLaid 5 = .ok (.aload_n 0, 1) ∧ decode cX9_manyLaid 6 = .ok (.getfield 9, 3) ∧ decode cX9_manyLaid 9 = .ok (.iconst 1, 1) ∧ decode cX9_manyLaid 10 = .ok (.iaload, 1) ∧ decode cX9_manyLaid 11 = .ok (.if_icmp .ge 28, 3) ∧ decode cX9_manyLaid 14 = .ok (.iload_n 1, 1) ∧ decode cX9_manyLaid 15 = .ok (.aload_n 0, 1) ∧ decode cX9_manyLaid 16 = .ok (.iload_n 2, 1) ∧ decode cX9_manyLaid 17 = .ok (.iconst 3, 1) ∧ decode cX9_manyLaid 18 = .ok (.invokevirtual 96, 3) ∧ decode cX9_manyLaid 21 = .ok (.bipush 12, 2) := by decide +kernel
theorem dX9_manyLaid_0 : decode cX9_manyLaid 0 = .ok (.iconst 0, 1) := dgX9_manyLaid_0.1
theorem dX9_manyLaid_1 : decode cX9_manyLaid 1 = .ok (.istore_n 1, 1) := dgX9_manyLaid_0.2.1
theorem dX9_manyLaid_2 : decode cX9_manyLaid 2 = .ok (.iconst 0, 1) := dgX9_manyLaid_0.2.2.1
theorem dX9_manyLaid_3 : decode cX9_manyLaid 3 = .ok (.istore_n 2, 1) := dgX9_manyLaid_0.2.2.2.1
theorem dX9_manyLaid_4 : decode cX9_manyLaid 4 = .ok (.iload_n 2, 1) := dgX9_manyLaid_0.2.2.2.2.1
theorem dX9_manyLaid_5 : decode cX9_manyLaid 5 = .ok (.aload_n 0, 1) := dgX9_manyLaid_0.2.2.2.2.2.1
theorem dX9_manyLaid_6 : decode cX9_manyLaid 6 = .ok (.getfield 9, 3) := dgX9_manyLaid_0.2.2.2.2.2.2.1
theorem dX9_manyLaid_9 : decode cX9_manyLaid 9 = .ok (.iconst 1, 1) := dgX9_manyLaid_0.2.2.2.2.2.2.2.1
theorem dX9_manyLaid_10 : decode cX9_manyLaid 10 = .ok (.iaload, 1) := dgX9_manyLaid_0.2.2.2.2.2.2.2.2.1
theorem dX9_manyLaid_11 : decode cX9_manyLaid 11 = .ok (.if_icmp .ge 28, 3) := dgX9_manyLaid_0.2.2.2.2.2.2.2.2.2.1
theorem dX9_manyLaid_14 : decode cX9_manyLaid 14 = .ok (.iload_n 1, 1) := dgX9_manyLaid_0.2.2.2.2.2.2.2.2.2.2.1
theorem dX9_manyLaid_15 : decode cX9_manyLaid 15 = .ok (.aload_n 0, 1) := dgX9_manyLaid_0.2.2.2.2.2.2.2.2.2.2.2.1
theorem dX9_manyLaid_16 : decode cX9_manyLaid 16 = .ok (.iload_n 2, 1) := dgX9_manyLaid_0.2.2.2.2.2.2.2.2.2.2.2.2.1
theorem dX9_manyLaid_17 : decode cX9_manyLaid 17 = .ok (.iconst 3, 1) := dgX9_manyLaid_0.2.2.2.2.2.2.2.2.2.2.2.2.2.1
theorem dX9_manyLaid_18 : decode cX9_manyLaid 18 = .ok (.invokevirtual 96, 3) := dgX9_manyLaid_0.2.2.2.2.2.2.2.2.2.2.2.2.2.2.1
theorem dX9_manyLaid_21 : decode cX9_manyLaid 21 = .ok (.bipush 12, 2) := dgX9_manyLaid_0.2.2.2.2.2.2.2.2.2.2.2.2.2.2.2
theorem dgX9_manyLaid_1 : decode cX9_manyLaid 23 = .ok (.if_icmp .ne 7, 3) ∧ decode cX9_manyLaid 26 = .ok (.iconst 0, 1) ∧ decode cX9_manyLaid 27 = .ok (.goto 4, 3) ∧ decode cX9_manyLaid 30 = .ok (.iconst 1, 1) ∧ decode cX9_manyLaid 31 = .ok (.iadd, 1) ∧ decode cX9_manyLaid 32 = .ok (.istore_n 1, 1) ∧ decode cX9_manyLaid 33 = .ok (.iinc 2 1, 3) ∧ decode cX9_manyLaid 36 = .ok (.goto (-32), 3) ∧ decode cX9_manyLaid 39 = .ok (.iload_n 1, 1) ∧ decode cX9_manyLaid 40 = .ok (.ireturn, 1) := by decide +kernel
theorem dX9_manyLaid_23 : decode cX9_manyLaid 23 = .ok (.if_icmp .ne 7, 3) := dgX9_manyLaid_1.1
theorem dX9_manyLaid_26 : decode cX9_manyLaid 26 = .ok (.iconst 0, 1) := dgX9_manyLaid_1.2.1
theorem dX9_manyLaid_27 : decode cX9_manyLaid 27 = .ok (.goto 4, 3) := dgX9_manyLaid_1.2.2.1
theorem dX9_manyLaid_30 : decode cX9_manyLaid 30 = .ok (.iconst 1, 1) := dgX9_manyLaid_1.2.2.2.1
theorem dX9_manyLaid_31 : decode cX9_manyLaid 31 = .ok (.iadd, 1) := dgX9_manyLaid_1.2.2.2.2.1
theorem dX9_manyLaid_32 : decode cX9_manyLaid 32 = .ok (.istore_n 1, 1) := dgX9_manyLaid_1.2.2.2.2.2.1
theorem dX9_manyLaid_33 : decode cX9_manyLaid 33 = .ok (.iinc 2 1, 3) := dgX9_manyLaid_1.2.2.2.2.2.2.1
theorem dX9_manyLaid_36 : decode cX9_manyLaid 36 = .ok (.goto (-32), 3) := dgX9_manyLaid_1.2.2.2.2.2.2.2.1
theorem dX9_manyLaid_39 : decode cX9_manyLaid 39 = .ok (.iload_n 1, 1) := dgX9_manyLaid_1.2.2.2.2.2.2.2.2.1
theorem dX9_manyLaid_40 : decode cX9_manyLaid 40 = .ok (.ireturn, 1) := dgX9_manyLaid_1.2.2.2.2.2.2.2.2.2
abbrev pX9_manyLaid : List Nat := [0, 4, 30, 31, 39]
def bX9_manyLaid_0 (cal : ab_F) : ab_K := o_push (.int 0) <| o_istore 1 <| o_push (.int 0) <| o_istore 2 <| o_goto 1
def bX9_manyLaid_1 (cal : ab_F) : ab_K := o_iload 2 <| o_aload 0 <| o_getf 8 0 <| o_push (.int 1) <| o_iald 0 <| o_cmp (fun x y => decide (y ≤ x)) 4 <| o_iload 1 <| o_aload 0 <| o_iload 2 <| o_push (.int 3) <| o_callV cal 135 2 8 <| o_push (.int 12) <| o_cmp (fun x y => decide (¬ x = y)) 2 <| o_push (.int 0) <| o_goto 3
def bX9_manyLaid_2 (cal : ab_F) : ab_K := o_push (.int 1) <| o_goto 3
def bX9_manyLaid_3 (cal : ab_F) : ab_K := o_bin (fun x y => x + y) <| o_istore 1 <| o_iinc 2 1 <| o_goto 1
def bX9_manyLaid_4 (cal : ab_F) : ab_K := o_iload 1 <| o_ret (some .int)
def bX9_manyLaid (cal : ab_F) : List ab_K := [bX9_manyLaid_0 cal, bX9_manyLaid_1 cal, bX9_manyLaid_2 cal, bX9_manyLaid_3 cal, bX9_manyLaid_4 cal]
set_option maxRecDepth 100000 in
theorem sX9_manyLaid_0 {G : ab_G} {xs : List Int32} {d : Nat} {cal : ab_F} (hcs : ab_CS G (ab_Z G xs) ab_Mf cal d) : ab_Sd G (ab_Z G xs) (d + 1) (ab_mY mX9_manyLaid pX9_manyLaid) 0 (bX9_manyLaid_0 cal) :=
  sn_iconst dX9_manyLaid_0 rfl <| sn_istore_n dX9_manyLaid_1 rfl (by decide) <| sn_iconst dX9_manyLaid_2 rfl <| sn_istore_n dX9_manyLaid_3 rfl (by decide) <| sn_next rfl
set_option maxRecDepth 100000 in
theorem sX9_manyLaid_1 {G : ab_G} {xs : List Int32} {d : Nat} {cal : ab_F} (hcs : ab_CS G (ab_Z G xs) ab_Mf cal d) : ab_Sd G (ab_Z G xs) (d + 1) (ab_mY mX9_manyLaid pX9_manyLaid) 4 (bX9_manyLaid_1 cal) :=
  sn_iload_n dX9_manyLaid_4 rfl <| sn_aload_n dX9_manyLaid_5 rfl <| sn_getf dX9_manyLaid_6 rfl hinX9 (by decide) w_991 <| sn_iconst dX9_manyLaid_9 rfl <| sn_iald dX9_manyLaid_10 rfl <| sn_cmp_ge (tg := 39) dX9_manyLaid_11 rfl rfl <| sn_iload_n dX9_manyLaid_14 rfl <| sn_aload_n dX9_manyLaid_15 rfl <| sn_iload_n dX9_manyLaid_16 rfl <| sn_iconst dX9_manyLaid_17 rfl <| sq_callV mt_135 hcs dX9_manyLaid_18 rfl w_1123 w_1125 w_18 w_63 w_1126 hy_135 hm_135 <| sn_bipush dX9_manyLaid_21 rfl <| sn_cmp_ne (tg := 30) dX9_manyLaid_23 rfl rfl <| sn_iconst dX9_manyLaid_26 rfl <| sn_goto (tg := 31) dX9_manyLaid_27 rfl rfl
set_option maxRecDepth 100000 in
theorem sX9_manyLaid_2 {G : ab_G} {xs : List Int32} {d : Nat} {cal : ab_F} (hcs : ab_CS G (ab_Z G xs) ab_Mf cal d) : ab_Sd G (ab_Z G xs) (d + 1) (ab_mY mX9_manyLaid pX9_manyLaid) 30 (bX9_manyLaid_2 cal) :=
  sn_iconst dX9_manyLaid_30 rfl <| sn_next rfl
set_option maxRecDepth 100000 in
theorem sX9_manyLaid_3 {G : ab_G} {xs : List Int32} {d : Nat} {cal : ab_F} (hcs : ab_CS G (ab_Z G xs) ab_Mf cal d) : ab_Sd G (ab_Z G xs) (d + 1) (ab_mY mX9_manyLaid pX9_manyLaid) 31 (bX9_manyLaid_3 cal) :=
  sn_iadd dX9_manyLaid_31 <| sn_istore_n dX9_manyLaid_32 rfl (by decide) <| sn_iinc dX9_manyLaid_33 rfl (by decide) <| sn_goto (tg := 4) dX9_manyLaid_36 rfl rfl
set_option maxRecDepth 100000 in
theorem sX9_manyLaid_4 {G : ab_G} {xs : List Int32} {d : Nat} {cal : ab_F} (hcs : ab_CS G (ab_Z G xs) ab_Mf cal d) : ab_Sd G (ab_Z G xs) (d + 1) (ab_mY mX9_manyLaid pX9_manyLaid) 39 (bX9_manyLaid_4 cal) :=
  sn_iload_n dX9_manyLaid_39 rfl <| sn_ret dX9_manyLaid_40 ab_ri_int
theorem sX9_manyLaid {G : ab_G} {xs : List Int32} {d : Nat} {cal : ab_F} (hcs : ab_CS G (ab_Z G xs) ab_Mf cal d) : ab_BS G (ab_Z G xs) (d + 1) (ab_mY mX9_manyLaid pX9_manyLaid) pX9_manyLaid (bX9_manyLaid cal) := ⟨sX9_manyLaid_0 hcs, sX9_manyLaid_1 hcs, sX9_manyLaid_2 hcs, sX9_manyLaid_3 hcs, sX9_manyLaid_4 hcs, trivial⟩
theorem dgX9_laysIn_0 : decode cX9_laysIn 0 = .ok (.iconst 3, 1) ∧ decode cX9_laysIn 1 = .ok (.iload_n 1, 1) ∧ decode cX9_laysIn 2 = .ok (.imul, 1) ∧ decode cX9_laysIn 3 = .ok (.istore_n 2, 1) ∧ decode cX9_laysIn 4 = .ok (.iload_n 2, 1) ∧ decode cX9_laysIn 5 = .ok (.iconst 3, 1) ∧ decode cX9_laysIn 6 = .ok (.iload_n 1, 1) ∧ decode cX9_laysIn 7 = .ok (.imul, 1) ∧ decode cX9_laysIn 8 = .ok (.iconst 3, 1) ∧ decode cX9_laysIn 9 = .ok (.iadd, 1) ∧ decode cX9_laysIn 10 = .ok (.if_icmp .ge 17, 3) ∧ decode cX9_laysIn 13 = .ok (.aload_n 0, 1) ∧ decode cX9_laysIn 14 = .ok (.iload_n 2, 1) ∧ decode cX9_laysIn 15 = .ok (.invokevirtual 143, 3) ∧ decode cX9_laysIn 18 = .ok (.ifCond .lt 9, 3) ∧ decode cX9_laysIn 21 = .ok (.iinc 2 1, 3) := by decide +kernel
theorem dX9_laysIn_0 : decode cX9_laysIn 0 = .ok (.iconst 3, 1) := dgX9_laysIn_0.1
theorem dX9_laysIn_1 : decode cX9_laysIn 1 = .ok (.iload_n 1, 1) := dgX9_laysIn_0.2.1
theorem dX9_laysIn_2 : decode cX9_laysIn 2 = .ok (.imul, 1) := dgX9_laysIn_0.2.2.1
theorem dX9_laysIn_3 : decode cX9_laysIn 3 = .ok (.istore_n 2, 1) := dgX9_laysIn_0.2.2.2.1
theorem dX9_laysIn_4 : decode cX9_laysIn 4 = .ok (.iload_n 2, 1) := dgX9_laysIn_0.2.2.2.2.1
theorem dX9_laysIn_5 : decode cX9_laysIn 5 = .ok (.iconst 3, 1) := dgX9_laysIn_0.2.2.2.2.2.1
theorem dX9_laysIn_6 : decode cX9_laysIn 6 = .ok (.iload_n 1, 1) := dgX9_laysIn_0.2.2.2.2.2.2.1
theorem dX9_laysIn_7 : decode cX9_laysIn 7 = .ok (.imul, 1) := dgX9_laysIn_0.2.2.2.2.2.2.2.1
theorem dX9_laysIn_8 : decode cX9_laysIn 8 = .ok (.iconst 3, 1) := dgX9_laysIn_0.2.2.2.2.2.2.2.2.1
theorem dX9_laysIn_9 : decode cX9_laysIn 9 = .ok (.iadd, 1) := dgX9_laysIn_0.2.2.2.2.2.2.2.2.2.1
theorem dX9_laysIn_10 : decode cX9_laysIn 10 = .ok (.if_icmp .ge 17, 3) := dgX9_laysIn_0.2.2.2.2.2.2.2.2.2.2.1
theorem dX9_laysIn_13 : decode cX9_laysIn 13 = .ok (.aload_n 0, 1) := dgX9_laysIn_0.2.2.2.2.2.2.2.2.2.2.2.1
theorem dX9_laysIn_14 : decode cX9_laysIn 14 = .ok (.iload_n 2, 1) := dgX9_laysIn_0.2.2.2.2.2.2.2.2.2.2.2.2.1
theorem dX9_laysIn_15 : decode cX9_laysIn 15 = .ok (.invokevirtual 143, 3) := dgX9_laysIn_0.2.2.2.2.2.2.2.2.2.2.2.2.2.1
theorem dX9_laysIn_18 : decode cX9_laysIn 18 = .ok (.ifCond .lt 9, 3) := dgX9_laysIn_0.2.2.2.2.2.2.2.2.2.2.2.2.2.2.1
theorem dX9_laysIn_21 : decode cX9_laysIn 21 = .ok (.iinc 2 1, 3) := dgX9_laysIn_0.2.2.2.2.2.2.2.2.2.2.2.2.2.2.2
theorem dgX9_laysIn_1 : decode cX9_laysIn 24 = .ok (.goto (-20), 3) ∧ decode cX9_laysIn 27 = .ok (.iconst (-1), 1) ∧ decode cX9_laysIn 28 = .ok (.istore_n 3, 1) ∧ decode cX9_laysIn 29 = .ok (.iconst 0, 1) ∧ decode cX9_laysIn 30 = .ok (.istore 4, 2) ∧ decode cX9_laysIn 32 = .ok (.iconst 0, 1) ∧ decode cX9_laysIn 33 = .ok (.istore 5, 2) ∧ decode cX9_laysIn 35 = .ok (.iconst 0, 1) ∧ decode cX9_laysIn 36 = .ok (.istore 6, 2) ∧ decode cX9_laysIn 38 = .ok (.iload 6, 2) ∧ decode cX9_laysIn 40 = .ok (.iconst 2, 1) ∧ decode cX9_laysIn 41 = .ok (.aload_n 0, 1) ∧ decode cX9_laysIn 42 = .ok (.getfield 9, 3) ∧ decode cX9_laysIn 45 = .ok (.iconst 1, 1) ∧ decode cX9_laysIn 46 = .ok (.iaload, 1) ∧ decode cX9_laysIn 47 = .ok (.imul, 1) := by decide +kernel
theorem dX9_laysIn_24 : decode cX9_laysIn 24 = .ok (.goto (-20), 3) := dgX9_laysIn_1.1
theorem dX9_laysIn_27 : decode cX9_laysIn 27 = .ok (.iconst (-1), 1) := dgX9_laysIn_1.2.1
theorem dX9_laysIn_28 : decode cX9_laysIn 28 = .ok (.istore_n 3, 1) := dgX9_laysIn_1.2.2.1
theorem dX9_laysIn_29 : decode cX9_laysIn 29 = .ok (.iconst 0, 1) := dgX9_laysIn_1.2.2.2.1
theorem dX9_laysIn_30 : decode cX9_laysIn 30 = .ok (.istore 4, 2) := dgX9_laysIn_1.2.2.2.2.1
theorem dX9_laysIn_32 : decode cX9_laysIn 32 = .ok (.iconst 0, 1) := dgX9_laysIn_1.2.2.2.2.2.1
theorem dX9_laysIn_33 : decode cX9_laysIn 33 = .ok (.istore 5, 2) := dgX9_laysIn_1.2.2.2.2.2.2.1
theorem dX9_laysIn_35 : decode cX9_laysIn 35 = .ok (.iconst 0, 1) := dgX9_laysIn_1.2.2.2.2.2.2.2.1
theorem dX9_laysIn_36 : decode cX9_laysIn 36 = .ok (.istore 6, 2) := dgX9_laysIn_1.2.2.2.2.2.2.2.2.1
theorem dX9_laysIn_38 : decode cX9_laysIn 38 = .ok (.iload 6, 2) := dgX9_laysIn_1.2.2.2.2.2.2.2.2.2.1
theorem dX9_laysIn_40 : decode cX9_laysIn 40 = .ok (.iconst 2, 1) := dgX9_laysIn_1.2.2.2.2.2.2.2.2.2.2.1
theorem dX9_laysIn_41 : decode cX9_laysIn 41 = .ok (.aload_n 0, 1) := dgX9_laysIn_1.2.2.2.2.2.2.2.2.2.2.2.1
theorem dX9_laysIn_42 : decode cX9_laysIn 42 = .ok (.getfield 9, 3) := dgX9_laysIn_1.2.2.2.2.2.2.2.2.2.2.2.2.1
theorem dX9_laysIn_45 : decode cX9_laysIn 45 = .ok (.iconst 1, 1) := dgX9_laysIn_1.2.2.2.2.2.2.2.2.2.2.2.2.2.1
theorem dX9_laysIn_46 : decode cX9_laysIn 46 = .ok (.iaload, 1) := dgX9_laysIn_1.2.2.2.2.2.2.2.2.2.2.2.2.2.2.1
theorem dX9_laysIn_47 : decode cX9_laysIn 47 = .ok (.imul, 1) := dgX9_laysIn_1.2.2.2.2.2.2.2.2.2.2.2.2.2.2.2
theorem dgX9_laysIn_2 : decode cX9_laysIn 48 = .ok (.if_icmp .ge 91, 3) ∧ decode cX9_laysIn 51 = .ok (.iload_n 2, 1) ∧ decode cX9_laysIn 52 = .ok (.iconst 3, 1) ∧ decode cX9_laysIn 53 = .ok (.iload_n 1, 1) ∧ decode cX9_laysIn 54 = .ok (.imul, 1) ∧ decode cX9_laysIn 55 = .ok (.iconst 3, 1) ∧ decode cX9_laysIn 56 = .ok (.iadd, 1) ∧ decode cX9_laysIn 57 = .ok (.if_icmp .ge 82, 3) ∧ decode cX9_laysIn 60 = .ok (.iload 6, 2) ∧ decode cX9_laysIn 62 = .ok (.iconst 2, 1) ∧ decode cX9_laysIn 63 = .ok (.idiv, 1) ∧ decode cX9_laysIn 64 = .ok (.istore 7, 2) ∧ decode cX9_laysIn 66 = .ok (.aload_n 0, 1) ∧ decode cX9_laysIn 67 = .ok (.iload 7, 2) ∧ decode cX9_laysIn 69 = .ok (.iconst 3, 1) ∧ decode cX9_laysIn 70 = .ok (.invokevirtual 96, 3) := by decide +kernel
theorem dX9_laysIn_48 : decode cX9_laysIn 48 = .ok (.if_icmp .ge 91, 3) := dgX9_laysIn_2.1
theorem dX9_laysIn_51 : decode cX9_laysIn 51 = .ok (.iload_n 2, 1) := dgX9_laysIn_2.2.1
theorem dX9_laysIn_52 : decode cX9_laysIn 52 = .ok (.iconst 3, 1) := dgX9_laysIn_2.2.2.1
theorem dX9_laysIn_53 : decode cX9_laysIn 53 = .ok (.iload_n 1, 1) := dgX9_laysIn_2.2.2.2.1
theorem dX9_laysIn_54 : decode cX9_laysIn 54 = .ok (.imul, 1) := dgX9_laysIn_2.2.2.2.2.1
theorem dX9_laysIn_55 : decode cX9_laysIn 55 = .ok (.iconst 3, 1) := dgX9_laysIn_2.2.2.2.2.2.1
theorem dX9_laysIn_56 : decode cX9_laysIn 56 = .ok (.iadd, 1) := dgX9_laysIn_2.2.2.2.2.2.2.1
theorem dX9_laysIn_57 : decode cX9_laysIn 57 = .ok (.if_icmp .ge 82, 3) := dgX9_laysIn_2.2.2.2.2.2.2.2.1
theorem dX9_laysIn_60 : decode cX9_laysIn 60 = .ok (.iload 6, 2) := dgX9_laysIn_2.2.2.2.2.2.2.2.2.1
theorem dX9_laysIn_62 : decode cX9_laysIn 62 = .ok (.iconst 2, 1) := dgX9_laysIn_2.2.2.2.2.2.2.2.2.2.1
theorem dX9_laysIn_63 : decode cX9_laysIn 63 = .ok (.idiv, 1) := dgX9_laysIn_2.2.2.2.2.2.2.2.2.2.2.1
theorem dX9_laysIn_64 : decode cX9_laysIn 64 = .ok (.istore 7, 2) := dgX9_laysIn_2.2.2.2.2.2.2.2.2.2.2.2.1
theorem dX9_laysIn_66 : decode cX9_laysIn 66 = .ok (.aload_n 0, 1) := dgX9_laysIn_2.2.2.2.2.2.2.2.2.2.2.2.2.1
theorem dX9_laysIn_67 : decode cX9_laysIn 67 = .ok (.iload 7, 2) := dgX9_laysIn_2.2.2.2.2.2.2.2.2.2.2.2.2.2.1
theorem dX9_laysIn_69 : decode cX9_laysIn 69 = .ok (.iconst 3, 1) := dgX9_laysIn_2.2.2.2.2.2.2.2.2.2.2.2.2.2.2.1
theorem dX9_laysIn_70 : decode cX9_laysIn 70 = .ok (.invokevirtual 96, 3) := dgX9_laysIn_2.2.2.2.2.2.2.2.2.2.2.2.2.2.2.2
theorem dgX9_laysIn_3 : decode cX9_laysIn 73 = .ok (.bipush 12, 2) ∧ decode cX9_laysIn 75 = .ok (.if_icmp .ne 26, 3) ∧ decode cX9_laysIn 78 = .ok (.iload 7, 2) ∧ decode cX9_laysIn 80 = .ok (.aload_n 0, 1) ∧ decode cX9_laysIn 81 = .ok (.getfield 19, 3) ∧ decode cX9_laysIn 84 = .ok (.if_icmp .eq 17, 3) ∧ decode cX9_laysIn 87 = .ok (.aload_n 0, 1) ∧ decode cX9_laysIn 88 = .ok (.iload 7, 2) ∧ decode cX9_laysIn 90 = .ok (.iload_n 2, 1) ∧ decode cX9_laysIn 91 = .ok (.iload 6, 2) ∧ decode cX9_laysIn 93 = .ok (.iconst 2, 1) ∧ decode cX9_laysIn 94 = .ok (.irem, 1) ∧ decode cX9_laysIn 95 = .ok (.invokevirtual 132, 3) ∧ decode cX9_laysIn 98 = .ok (.goto 4, 3) ∧ decode cX9_laysIn 101 = .ok (.iconst (-1), 1) ∧ decode cX9_laysIn 102 = .ok (.istore 8, 2) := by decide +kernel
theorem dX9_laysIn_73 : decode cX9_laysIn 73 = .ok (.bipush 12, 2) := dgX9_laysIn_3.1
theorem dX9_laysIn_75 : decode cX9_laysIn 75 = .ok (.if_icmp .ne 26, 3) := dgX9_laysIn_3.2.1
theorem dX9_laysIn_78 : decode cX9_laysIn 78 = .ok (.iload 7, 2) := dgX9_laysIn_3.2.2.1
theorem dX9_laysIn_80 : decode cX9_laysIn 80 = .ok (.aload_n 0, 1) := dgX9_laysIn_3.2.2.2.1
theorem dX9_laysIn_81 : decode cX9_laysIn 81 = .ok (.getfield 19, 3) := dgX9_laysIn_3.2.2.2.2.1
theorem dX9_laysIn_84 : decode cX9_laysIn 84 = .ok (.if_icmp .eq 17, 3) := dgX9_laysIn_3.2.2.2.2.2.1
theorem dX9_laysIn_87 : decode cX9_laysIn 87 = .ok (.aload_n 0, 1) := dgX9_laysIn_3.2.2.2.2.2.2.1
theorem dX9_laysIn_88 : decode cX9_laysIn 88 = .ok (.iload 7, 2) := dgX9_laysIn_3.2.2.2.2.2.2.2.1
theorem dX9_laysIn_90 : decode cX9_laysIn 90 = .ok (.iload_n 2, 1) := dgX9_laysIn_3.2.2.2.2.2.2.2.2.1
theorem dX9_laysIn_91 : decode cX9_laysIn 91 = .ok (.iload 6, 2) := dgX9_laysIn_3.2.2.2.2.2.2.2.2.2.1
theorem dX9_laysIn_93 : decode cX9_laysIn 93 = .ok (.iconst 2, 1) := dgX9_laysIn_3.2.2.2.2.2.2.2.2.2.2.1
theorem dX9_laysIn_94 : decode cX9_laysIn 94 = .ok (.irem, 1) := dgX9_laysIn_3.2.2.2.2.2.2.2.2.2.2.2.1
theorem dX9_laysIn_95 : decode cX9_laysIn 95 = .ok (.invokevirtual 132, 3) := dgX9_laysIn_3.2.2.2.2.2.2.2.2.2.2.2.2.1
theorem dX9_laysIn_98 : decode cX9_laysIn 98 = .ok (.goto 4, 3) := dgX9_laysIn_3.2.2.2.2.2.2.2.2.2.2.2.2.2.1
theorem dX9_laysIn_101 : decode cX9_laysIn 101 = .ok (.iconst (-1), 1) := dgX9_laysIn_3.2.2.2.2.2.2.2.2.2.2.2.2.2.2.1
theorem dX9_laysIn_102 : decode cX9_laysIn 102 = .ok (.istore 8, 2) := dgX9_laysIn_3.2.2.2.2.2.2.2.2.2.2.2.2.2.2.2
theorem dgX9_laysIn_4 : decode cX9_laysIn 104 = .ok (.iload 8, 2) ∧ decode cX9_laysIn 106 = .ok (.ifCond .lt 27, 3) ∧ decode cX9_laysIn 109 = .ok (.iload_n 3, 1) ∧ decode cX9_laysIn 110 = .ok (.ifCond .lt 10, 3) ∧ decode cX9_laysIn 113 = .ok (.iload 8, 2) ∧ decode cX9_laysIn 115 = .ok (.iload 4, 2) ∧ decode cX9_laysIn 117 = .ok (.if_icmp .ge 16, 3) ∧ decode cX9_laysIn 120 = .ok (.iload 7, 2) ∧ decode cX9_laysIn 122 = .ok (.istore_n 3, 1) ∧ decode cX9_laysIn 123 = .ok (.iload 8, 2) ∧ decode cX9_laysIn 125 = .ok (.istore 4, 2) ∧ decode cX9_laysIn 127 = .ok (.iload 6, 2) ∧ decode cX9_laysIn 129 = .ok (.iconst 2, 1) ∧ decode cX9_laysIn 130 = .ok (.irem, 1) ∧ decode cX9_laysIn 131 = .ok (.istore 5, 2) ∧ decode cX9_laysIn 133 = .ok (.iinc 6 1, 3) := by decide +kernel
theorem dX9_laysIn_104 : decode cX9_laysIn 104 = .ok (.iload 8, 2) := dgX9_laysIn_4.1
theorem dX9_laysIn_106 : decode cX9_laysIn 106 = .ok (.ifCond .lt 27, 3) := dgX9_laysIn_4.2.1
theorem dX9_laysIn_109 : decode cX9_laysIn 109 = .ok (.iload_n 3, 1) := dgX9_laysIn_4.2.2.1
theorem dX9_laysIn_110 : decode cX9_laysIn 110 = .ok (.ifCond .lt 10, 3) := dgX9_laysIn_4.2.2.2.1
theorem dX9_laysIn_113 : decode cX9_laysIn 113 = .ok (.iload 8, 2) := dgX9_laysIn_4.2.2.2.2.1
theorem dX9_laysIn_115 : decode cX9_laysIn 115 = .ok (.iload 4, 2) := dgX9_laysIn_4.2.2.2.2.2.1
theorem dX9_laysIn_117 : decode cX9_laysIn 117 = .ok (.if_icmp .ge 16, 3) := dgX9_laysIn_4.2.2.2.2.2.2.1
theorem dX9_laysIn_120 : decode cX9_laysIn 120 = .ok (.iload 7, 2) := dgX9_laysIn_4.2.2.2.2.2.2.2.1
theorem dX9_laysIn_122 : decode cX9_laysIn 122 = .ok (.istore_n 3, 1) := dgX9_laysIn_4.2.2.2.2.2.2.2.2.1
theorem dX9_laysIn_123 : decode cX9_laysIn 123 = .ok (.iload 8, 2) := dgX9_laysIn_4.2.2.2.2.2.2.2.2.2.1
theorem dX9_laysIn_125 : decode cX9_laysIn 125 = .ok (.istore 4, 2) := dgX9_laysIn_4.2.2.2.2.2.2.2.2.2.2.1
theorem dX9_laysIn_127 : decode cX9_laysIn 127 = .ok (.iload 6, 2) := dgX9_laysIn_4.2.2.2.2.2.2.2.2.2.2.2.1
theorem dX9_laysIn_129 : decode cX9_laysIn 129 = .ok (.iconst 2, 1) := dgX9_laysIn_4.2.2.2.2.2.2.2.2.2.2.2.2.1
theorem dX9_laysIn_130 : decode cX9_laysIn 130 = .ok (.irem, 1) := dgX9_laysIn_4.2.2.2.2.2.2.2.2.2.2.2.2.2.1
theorem dX9_laysIn_131 : decode cX9_laysIn 131 = .ok (.istore 5, 2) := dgX9_laysIn_4.2.2.2.2.2.2.2.2.2.2.2.2.2.2.1
theorem dX9_laysIn_133 : decode cX9_laysIn 133 = .ok (.iinc 6 1, 3) := dgX9_laysIn_4.2.2.2.2.2.2.2.2.2.2.2.2.2.2.2
theorem dgX9_laysIn_5 : decode cX9_laysIn 136 = .ok (.goto (-98), 3) ∧ decode cX9_laysIn 139 = .ok (.iload_n 3, 1) ∧ decode cX9_laysIn 140 = .ok (.ifCond .lt 32, 3) ∧ decode cX9_laysIn 143 = .ok (.aload_n 0, 1) ∧ decode cX9_laysIn 144 = .ok (.getfield 9, 3) ∧ decode cX9_laysIn 147 = .ok (.bipush 29, 2) ∧ decode cX9_laysIn 149 = .ok (.iconst 5, 1) ∧ decode cX9_laysIn 150 = .ok (.iload_n 3, 1) ∧ decode cX9_laysIn 151 = .ok (.imul, 1) ∧ decode cX9_laysIn 152 = .ok (.iadd, 1) ∧ decode cX9_laysIn 153 = .ok (.iconst 3, 1) ∧ decode cX9_laysIn 154 = .ok (.iadd, 1) ∧ decode cX9_laysIn 155 = .ok (.iload_n 2, 1) ∧ decode cX9_laysIn 156 = .ok (.iastore, 1) ∧ decode cX9_laysIn 157 = .ok (.aload_n 0, 1) ∧ decode cX9_laysIn 158 = .ok (.getfield 9, 3) := by decide +kernel
theorem dX9_laysIn_136 : decode cX9_laysIn 136 = .ok (.goto (-98), 3) := dgX9_laysIn_5.1
theorem dX9_laysIn_139 : decode cX9_laysIn 139 = .ok (.iload_n 3, 1) := dgX9_laysIn_5.2.1
theorem dX9_laysIn_140 : decode cX9_laysIn 140 = .ok (.ifCond .lt 32, 3) := dgX9_laysIn_5.2.2.1
theorem dX9_laysIn_143 : decode cX9_laysIn 143 = .ok (.aload_n 0, 1) := dgX9_laysIn_5.2.2.2.1
theorem dX9_laysIn_144 : decode cX9_laysIn 144 = .ok (.getfield 9, 3) := dgX9_laysIn_5.2.2.2.2.1
theorem dX9_laysIn_147 : decode cX9_laysIn 147 = .ok (.bipush 29, 2) := dgX9_laysIn_5.2.2.2.2.2.1
theorem dX9_laysIn_149 : decode cX9_laysIn 149 = .ok (.iconst 5, 1) := dgX9_laysIn_5.2.2.2.2.2.2.1
theorem dX9_laysIn_150 : decode cX9_laysIn 150 = .ok (.iload_n 3, 1) := dgX9_laysIn_5.2.2.2.2.2.2.2.1
theorem dX9_laysIn_151 : decode cX9_laysIn 151 = .ok (.imul, 1) := dgX9_laysIn_5.2.2.2.2.2.2.2.2.1
theorem dX9_laysIn_152 : decode cX9_laysIn 152 = .ok (.iadd, 1) := dgX9_laysIn_5.2.2.2.2.2.2.2.2.2.1
theorem dX9_laysIn_153 : decode cX9_laysIn 153 = .ok (.iconst 3, 1) := dgX9_laysIn_5.2.2.2.2.2.2.2.2.2.2.1
theorem dX9_laysIn_154 : decode cX9_laysIn 154 = .ok (.iadd, 1) := dgX9_laysIn_5.2.2.2.2.2.2.2.2.2.2.2.1
theorem dX9_laysIn_155 : decode cX9_laysIn 155 = .ok (.iload_n 2, 1) := dgX9_laysIn_5.2.2.2.2.2.2.2.2.2.2.2.2.1
theorem dX9_laysIn_156 : decode cX9_laysIn 156 = .ok (.iastore, 1) := dgX9_laysIn_5.2.2.2.2.2.2.2.2.2.2.2.2.2.1
theorem dX9_laysIn_157 : decode cX9_laysIn 157 = .ok (.aload_n 0, 1) := dgX9_laysIn_5.2.2.2.2.2.2.2.2.2.2.2.2.2.2.1
theorem dX9_laysIn_158 : decode cX9_laysIn 158 = .ok (.getfield 9, 3) := dgX9_laysIn_5.2.2.2.2.2.2.2.2.2.2.2.2.2.2.2
theorem dgX9_laysIn_6 : decode cX9_laysIn 161 = .ok (.bipush 29, 2) ∧ decode cX9_laysIn 163 = .ok (.iconst 5, 1) ∧ decode cX9_laysIn 164 = .ok (.iload_n 3, 1) ∧ decode cX9_laysIn 165 = .ok (.imul, 1) ∧ decode cX9_laysIn 166 = .ok (.iadd, 1) ∧ decode cX9_laysIn 167 = .ok (.iconst 4, 1) ∧ decode cX9_laysIn 168 = .ok (.iadd, 1) ∧ decode cX9_laysIn 169 = .ok (.iload 5, 2) ∧ decode cX9_laysIn 171 = .ok (.iastore, 1) ∧ decode cX9_laysIn 172 = .ok (.return_, 1) := by decide +kernel
theorem dX9_laysIn_161 : decode cX9_laysIn 161 = .ok (.bipush 29, 2) := dgX9_laysIn_6.1
theorem dX9_laysIn_163 : decode cX9_laysIn 163 = .ok (.iconst 5, 1) := dgX9_laysIn_6.2.1
theorem dX9_laysIn_164 : decode cX9_laysIn 164 = .ok (.iload_n 3, 1) := dgX9_laysIn_6.2.2.1
theorem dX9_laysIn_165 : decode cX9_laysIn 165 = .ok (.imul, 1) := dgX9_laysIn_6.2.2.2.1
theorem dX9_laysIn_166 : decode cX9_laysIn 166 = .ok (.iadd, 1) := dgX9_laysIn_6.2.2.2.2.1
theorem dX9_laysIn_167 : decode cX9_laysIn 167 = .ok (.iconst 4, 1) := dgX9_laysIn_6.2.2.2.2.2.1
theorem dX9_laysIn_168 : decode cX9_laysIn 168 = .ok (.iadd, 1) := dgX9_laysIn_6.2.2.2.2.2.2.1
theorem dX9_laysIn_169 : decode cX9_laysIn 169 = .ok (.iload 5, 2) := dgX9_laysIn_6.2.2.2.2.2.2.2.1
theorem dX9_laysIn_171 : decode cX9_laysIn 171 = .ok (.iastore, 1) := dgX9_laysIn_6.2.2.2.2.2.2.2.2.1
theorem dX9_laysIn_172 : decode cX9_laysIn 172 = .ok (.return_, 1) := dgX9_laysIn_6.2.2.2.2.2.2.2.2.2
abbrev pX9_laysIn : List Nat := [0, 4, 27, 38, 101, 102, 120, 133, 139, 172]
def bX9_laysIn_0 (cal : ab_F) : ab_K := o_push (.int 3) <| o_iload 1 <| o_bin (fun x y => x * y) <| o_istore 2 <| o_goto 1
def bX9_laysIn_1 (cal : ab_F) : ab_K := o_iload 2 <| o_push (.int 3) <| o_iload 1 <| o_bin (fun x y => x * y) <| o_push (.int 3) <| o_bin (fun x y => x + y) <| o_cmp (fun x y => decide (y ≤ x)) 2 <| o_aload 0 <| o_iload 2 <| o_callV cal 149 1 8 <| o_if (fun x => decide (x < 0)) 2 <| o_iinc 2 1 <| o_goto 1
def bX9_laysIn_2 (cal : ab_F) : ab_K := o_push (.int (-1)) <| o_istore 3 <| o_push (.int 0) <| o_istore 4 <| o_push (.int 0) <| o_istore 5 <| o_push (.int 0) <| o_istore 6 <| o_goto 3
def bX9_laysIn_3 (cal : ab_F) : ab_K := o_iload 6 <| o_push (.int 2) <| o_aload 0 <| o_getf 8 0 <| o_push (.int 1) <| o_iald 0 <| o_bin (fun x y => x * y) <| o_cmp (fun x y => decide (y ≤ x)) 8 <| o_iload 2 <| o_push (.int 3) <| o_iload 1 <| o_bin (fun x y => x * y) <| o_push (.int 3) <| o_bin (fun x y => x + y) <| o_cmp (fun x y => decide (y ≤ x)) 8 <| o_iload 6 <| o_push (.int 2) <| o_div (fun x y => x / y) <| o_istore 7 <| o_aload 0 <| o_iload 7 <| o_push (.int 3) <| o_callV cal 135 2 8 <| o_push (.int 12) <| o_cmp (fun x y => decide (¬ x = y)) 4 <| o_iload 7 <| o_aload 0 <| o_getf 8 4 <| o_cmp (fun x y => decide (x = y)) 4 <| o_aload 0 <| o_iload 7 <| o_iload 2 <| o_iload 6 <| o_push (.int 2) <| o_div (fun x y => x - x / y * y) <| o_callV cal 144 3 8 <| o_goto 5
def bX9_laysIn_4 (cal : ab_F) : ab_K := o_push (.int (-1)) <| o_goto 5
def bX9_laysIn_5 (cal : ab_F) : ab_K := o_istore 8 <| o_iload 8 <| o_if (fun x => decide (x < 0)) 7 <| o_iload 3 <| o_if (fun x => decide (x < 0)) 6 <| o_iload 8 <| o_iload 4 <| o_cmp (fun x y => decide (y ≤ x)) 7 <| o_goto 6
def bX9_laysIn_6 (cal : ab_F) : ab_K := o_iload 7 <| o_istore 3 <| o_iload 8 <| o_istore 4 <| o_iload 6 <| o_push (.int 2) <| o_div (fun x y => x - x / y * y) <| o_istore 5 <| o_goto 7
def bX9_laysIn_7 (cal : ab_F) : ab_K := o_iinc 6 1 <| o_goto 3
def bX9_laysIn_8 (cal : ab_F) : ab_K := o_iload 3 <| o_if (fun x => decide (x < 0)) 9 <| o_aload 0 <| o_getf 8 0 <| o_push (.int 29) <| o_push (.int 5) <| o_iload 3 <| o_bin (fun x y => x * y) <| o_bin (fun x y => x + y) <| o_push (.int 3) <| o_bin (fun x y => x + y) <| o_iload 2 <| o_iast 0 (fun x => x) <| o_aload 0 <| o_getf 8 0 <| o_push (.int 29) <| o_push (.int 5) <| o_iload 3 <| o_bin (fun x y => x * y) <| o_bin (fun x y => x + y) <| o_push (.int 4) <| o_bin (fun x y => x + y) <| o_iload 5 <| o_iast 0 (fun x => x) <| o_goto 9
def bX9_laysIn_9 (cal : ab_F) : ab_K := o_ret none
def bX9_laysIn (cal : ab_F) : List ab_K := [bX9_laysIn_0 cal, bX9_laysIn_1 cal, bX9_laysIn_2 cal, bX9_laysIn_3 cal, bX9_laysIn_4 cal, bX9_laysIn_5 cal, bX9_laysIn_6 cal, bX9_laysIn_7 cal, bX9_laysIn_8 cal, bX9_laysIn_9 cal]
set_option maxRecDepth 100000 in
theorem sX9_laysIn_0 {G : ab_G} {xs : List Int32} {d : Nat} {cal : ab_F} (hcs : ab_CS G (ab_Z G xs) ab_Mf cal d) : ab_Sd G (ab_Z G xs) (d + 1) (ab_mY mX9_laysIn pX9_laysIn) 0 (bX9_laysIn_0 cal) :=
  sn_iconst dX9_laysIn_0 rfl <| sn_iload_n dX9_laysIn_1 rfl <| sn_imul dX9_laysIn_2 <| sn_istore_n dX9_laysIn_3 rfl (by decide) <| sn_next rfl
set_option maxRecDepth 100000 in
theorem sX9_laysIn_1 {G : ab_G} {xs : List Int32} {d : Nat} {cal : ab_F} (hcs : ab_CS G (ab_Z G xs) ab_Mf cal d) : ab_Sd G (ab_Z G xs) (d + 1) (ab_mY mX9_laysIn pX9_laysIn) 4 (bX9_laysIn_1 cal) :=
  sn_iload_n dX9_laysIn_4 rfl <| sn_iconst dX9_laysIn_5 rfl <| sn_iload_n dX9_laysIn_6 rfl <| sn_imul dX9_laysIn_7 <| sn_iconst dX9_laysIn_8 rfl <| sn_iadd dX9_laysIn_9 <| sn_cmp_ge (tg := 27) dX9_laysIn_10 rfl rfl <| sn_aload_n dX9_laysIn_13 rfl <| sn_iload_n dX9_laysIn_14 rfl <| sq_callV mt_149 hcs dX9_laysIn_15 rfl w_1191 w_1193 w_27 w_63 w_1194 hy_149 hm_149 <| sn_if_lt (tg := 27) dX9_laysIn_18 rfl rfl <| sn_iinc dX9_laysIn_21 rfl (by decide) <| sn_goto (tg := 4) dX9_laysIn_24 rfl rfl
set_option maxRecDepth 100000 in
theorem sX9_laysIn_2 {G : ab_G} {xs : List Int32} {d : Nat} {cal : ab_F} (hcs : ab_CS G (ab_Z G xs) ab_Mf cal d) : ab_Sd G (ab_Z G xs) (d + 1) (ab_mY mX9_laysIn pX9_laysIn) 27 (bX9_laysIn_2 cal) :=
  sn_iconst dX9_laysIn_27 rfl <| sn_istore_n dX9_laysIn_28 rfl (by decide) <| sn_iconst dX9_laysIn_29 rfl <| sn_istore dX9_laysIn_30 (by decide) <| sn_iconst dX9_laysIn_32 rfl <| sn_istore dX9_laysIn_33 (by decide) <| sn_iconst dX9_laysIn_35 rfl <| sn_istore dX9_laysIn_36 (by decide) <| sn_next rfl
set_option maxRecDepth 100000 in
theorem sX9_laysIn_3 {G : ab_G} {xs : List Int32} {d : Nat} {cal : ab_F} (hcs : ab_CS G (ab_Z G xs) ab_Mf cal d) : ab_Sd G (ab_Z G xs) (d + 1) (ab_mY mX9_laysIn pX9_laysIn) 38 (bX9_laysIn_3 cal) :=
  sn_iload dX9_laysIn_38 <| sn_iconst dX9_laysIn_40 rfl <| sn_aload_n dX9_laysIn_41 rfl <| sn_getf dX9_laysIn_42 rfl hinX9 (by decide) w_991 <| sn_iconst dX9_laysIn_45 rfl <| sn_iald dX9_laysIn_46 rfl <| sn_imul dX9_laysIn_47 <| sn_cmp_ge (tg := 139) dX9_laysIn_48 rfl rfl <| sn_iload_n dX9_laysIn_51 rfl <| sn_iconst dX9_laysIn_52 rfl <| sn_iload_n dX9_laysIn_53 rfl <| sn_imul dX9_laysIn_54 <| sn_iconst dX9_laysIn_55 rfl <| sn_iadd dX9_laysIn_56 <| sn_cmp_ge (tg := 139) dX9_laysIn_57 rfl rfl <| sn_iload dX9_laysIn_60 <| sn_iconst dX9_laysIn_62 rfl <| sn_idiv dX9_laysIn_63 <| sn_istore dX9_laysIn_64 (by decide) <| sn_aload_n dX9_laysIn_66 rfl <| sn_iload dX9_laysIn_67 <| sn_iconst dX9_laysIn_69 rfl <| sq_callV mt_135 hcs dX9_laysIn_70 rfl w_1123 w_1125 w_18 w_63 w_1126 hy_135 hm_135 <| sn_bipush dX9_laysIn_73 rfl <| sn_cmp_ne (tg := 101) dX9_laysIn_75 rfl rfl <| sn_iload dX9_laysIn_78 <| sn_aload_n dX9_laysIn_80 rfl <| sn_getf dX9_laysIn_81 rfl hinX9 (by decide) w_995 <| sn_cmp_eq (tg := 101) dX9_laysIn_84 rfl rfl <| sn_aload_n dX9_laysIn_87 rfl <| sn_iload dX9_laysIn_88 <| sn_iload_n dX9_laysIn_90 rfl <| sn_iload dX9_laysIn_91 <| sn_iconst dX9_laysIn_93 rfl <| sn_irem dX9_laysIn_94 <| sq_callV mt_144 hcs dX9_laysIn_95 rfl w_1142 w_1144 w_21 w_63 w_1145 hy_144 hm_144 <| sn_goto (tg := 102) dX9_laysIn_98 rfl rfl
set_option maxRecDepth 100000 in
theorem sX9_laysIn_4 {G : ab_G} {xs : List Int32} {d : Nat} {cal : ab_F} (hcs : ab_CS G (ab_Z G xs) ab_Mf cal d) : ab_Sd G (ab_Z G xs) (d + 1) (ab_mY mX9_laysIn pX9_laysIn) 101 (bX9_laysIn_4 cal) :=
  sn_iconst dX9_laysIn_101 rfl <| sn_next rfl
set_option maxRecDepth 100000 in
theorem sX9_laysIn_5 {G : ab_G} {xs : List Int32} {d : Nat} {cal : ab_F} (hcs : ab_CS G (ab_Z G xs) ab_Mf cal d) : ab_Sd G (ab_Z G xs) (d + 1) (ab_mY mX9_laysIn pX9_laysIn) 102 (bX9_laysIn_5 cal) :=
  sn_istore dX9_laysIn_102 (by decide) <| sn_iload dX9_laysIn_104 <| sn_if_lt (tg := 133) dX9_laysIn_106 rfl rfl <| sn_iload_n dX9_laysIn_109 rfl <| sn_if_lt (tg := 120) dX9_laysIn_110 rfl rfl <| sn_iload dX9_laysIn_113 <| sn_iload dX9_laysIn_115 <| sn_cmp_ge (tg := 133) dX9_laysIn_117 rfl rfl <| sn_next rfl
set_option maxRecDepth 100000 in
theorem sX9_laysIn_6 {G : ab_G} {xs : List Int32} {d : Nat} {cal : ab_F} (hcs : ab_CS G (ab_Z G xs) ab_Mf cal d) : ab_Sd G (ab_Z G xs) (d + 1) (ab_mY mX9_laysIn pX9_laysIn) 120 (bX9_laysIn_6 cal) :=
  sn_iload dX9_laysIn_120 <| sn_istore_n dX9_laysIn_122 rfl (by decide) <| sn_iload dX9_laysIn_123 <| sn_istore dX9_laysIn_125 (by decide) <| sn_iload dX9_laysIn_127 <| sn_iconst dX9_laysIn_129 rfl <| sn_irem dX9_laysIn_130 <| sn_istore dX9_laysIn_131 (by decide) <| sn_next rfl
set_option maxRecDepth 100000 in
theorem sX9_laysIn_7 {G : ab_G} {xs : List Int32} {d : Nat} {cal : ab_F} (hcs : ab_CS G (ab_Z G xs) ab_Mf cal d) : ab_Sd G (ab_Z G xs) (d + 1) (ab_mY mX9_laysIn pX9_laysIn) 133 (bX9_laysIn_7 cal) :=
  sn_iinc dX9_laysIn_133 rfl (by decide) <| sn_goto (tg := 38) dX9_laysIn_136 rfl rfl
set_option maxRecDepth 100000 in
theorem sX9_laysIn_8 {G : ab_G} {xs : List Int32} {d : Nat} {cal : ab_F} (hcs : ab_CS G (ab_Z G xs) ab_Mf cal d) : ab_Sd G (ab_Z G xs) (d + 1) (ab_mY mX9_laysIn pX9_laysIn) 139 (bX9_laysIn_8 cal) :=
  sn_iload_n dX9_laysIn_139 rfl <| sn_if_lt (tg := 172) dX9_laysIn_140 rfl rfl <| sn_aload_n dX9_laysIn_143 rfl <| sn_getf dX9_laysIn_144 rfl hinX9 (by decide) w_991 <| sn_bipush dX9_laysIn_147 rfl <| sn_iconst dX9_laysIn_149 rfl <| sn_iload_n dX9_laysIn_150 rfl <| sn_imul dX9_laysIn_151 <| sn_iadd dX9_laysIn_152 <| sn_iconst dX9_laysIn_153 rfl <| sn_iadd dX9_laysIn_154 <| sn_iload_n dX9_laysIn_155 rfl <| sn_iast dX9_laysIn_156 rfl rfl <| sn_aload_n dX9_laysIn_157 rfl <| sn_getf dX9_laysIn_158 rfl hinX9 (by decide) w_991 <| sn_bipush dX9_laysIn_161 rfl <| sn_iconst dX9_laysIn_163 rfl <| sn_iload_n dX9_laysIn_164 rfl <| sn_imul dX9_laysIn_165 <| sn_iadd dX9_laysIn_166 <| sn_iconst dX9_laysIn_167 rfl <| sn_iadd dX9_laysIn_168 <| sn_iload dX9_laysIn_169 <| sn_iast dX9_laysIn_171 rfl rfl <| sn_next rfl
set_option maxRecDepth 100000 in
theorem sX9_laysIn_9 {G : ab_G} {xs : List Int32} {d : Nat} {cal : ab_F} (hcs : ab_CS G (ab_Z G xs) ab_Mf cal d) : ab_Sd G (ab_Z G xs) (d + 1) (ab_mY mX9_laysIn pX9_laysIn) 172 (bX9_laysIn_9 cal) :=
  sn_ret dX9_laysIn_172 ab_ri_void
theorem sX9_laysIn {G : ab_G} {xs : List Int32} {d : Nat} {cal : ab_F} (hcs : ab_CS G (ab_Z G xs) ab_Mf cal d) : ab_BS G (ab_Z G xs) (d + 1) (ab_mY mX9_laysIn pX9_laysIn) pX9_laysIn (bX9_laysIn cal) := ⟨sX9_laysIn_0 hcs, sX9_laysIn_1 hcs, sX9_laysIn_2 hcs, sX9_laysIn_3 hcs, sX9_laysIn_4 hcs, sX9_laysIn_5 hcs, sX9_laysIn_6 hcs, sX9_laysIn_7 hcs, sX9_laysIn_8 hcs, sX9_laysIn_9 hcs, trivial⟩
theorem dgX9_day_0 : decode cX9_day 0 = .ok (.aload_n 0, 1) ∧ decode cX9_day 1 = .ok (.aload_n 0, 1) ∧ decode cX9_day 2 = .ok (.invokevirtual 148, 3) ∧ decode cX9_day 5 = .ok (.iconst 4, 1) ∧ decode cX9_day 6 = .ok (.irem, 1) ∧ decode cX9_day 7 = .ok (.invokevirtual 152, 3) ∧ decode cX9_day 10 = .ok (.aload_n 0, 1) ∧ decode cX9_day 11 = .ok (.invokevirtual 148, 3) ∧ decode cX9_day 14 = .ok (.bipush 100, 2) ∧ decode cX9_day 16 = .ok (.irem, 1) ∧ decode cX9_day 17 = .ok (.aload_n 0, 1) ∧ decode cX9_day 18 = .ok (.getfield 9, 3) ∧ decode cX9_day 21 = .ok (.iconst 3, 1) ∧ decode cX9_day 22 = .ok (.iaload, 1) ∧ decode cX9_day 23 = .ok (.if_icmp .ge 40, 3) ∧ decode cX9_day 26 = .ok (.aload_n 0, 1) := by decide +kernel
theorem dX9_day_0 : decode cX9_day 0 = .ok (.aload_n 0, 1) := dgX9_day_0.1
theorem dX9_day_1 : decode cX9_day 1 = .ok (.aload_n 0, 1) := dgX9_day_0.2.1
theorem dX9_day_2 : decode cX9_day 2 = .ok (.invokevirtual 148, 3) := dgX9_day_0.2.2.1
theorem dX9_day_5 : decode cX9_day 5 = .ok (.iconst 4, 1) := dgX9_day_0.2.2.2.1
theorem dX9_day_6 : decode cX9_day 6 = .ok (.irem, 1) := dgX9_day_0.2.2.2.2.1
theorem dX9_day_7 : decode cX9_day 7 = .ok (.invokevirtual 152, 3) := dgX9_day_0.2.2.2.2.2.1
theorem dX9_day_10 : decode cX9_day 10 = .ok (.aload_n 0, 1) := dgX9_day_0.2.2.2.2.2.2.1
theorem dX9_day_11 : decode cX9_day 11 = .ok (.invokevirtual 148, 3) := dgX9_day_0.2.2.2.2.2.2.2.1
theorem dX9_day_14 : decode cX9_day 14 = .ok (.bipush 100, 2) := dgX9_day_0.2.2.2.2.2.2.2.2.1
theorem dX9_day_16 : decode cX9_day 16 = .ok (.irem, 1) := dgX9_day_0.2.2.2.2.2.2.2.2.2.1
theorem dX9_day_17 : decode cX9_day 17 = .ok (.aload_n 0, 1) := dgX9_day_0.2.2.2.2.2.2.2.2.2.2.1
theorem dX9_day_18 : decode cX9_day 18 = .ok (.getfield 9, 3) := dgX9_day_0.2.2.2.2.2.2.2.2.2.2.2.1
theorem dX9_day_21 : decode cX9_day 21 = .ok (.iconst 3, 1) := dgX9_day_0.2.2.2.2.2.2.2.2.2.2.2.2.1
theorem dX9_day_22 : decode cX9_day 22 = .ok (.iaload, 1) := dgX9_day_0.2.2.2.2.2.2.2.2.2.2.2.2.2.1
theorem dX9_day_23 : decode cX9_day 23 = .ok (.if_icmp .ge 40, 3) := dgX9_day_0.2.2.2.2.2.2.2.2.2.2.2.2.2.2.1
theorem dX9_day_26 : decode cX9_day 26 = .ok (.aload_n 0, 1) := dgX9_day_0.2.2.2.2.2.2.2.2.2.2.2.2.2.2.2
theorem dgX9_day_1 : decode cX9_day 27 = .ok (.aload_n 0, 1) ∧ decode cX9_day 28 = .ok (.invokevirtual 148, 3) ∧ decode cX9_day 31 = .ok (.bipush 12, 2) ∧ decode cX9_day 33 = .ok (.irem, 1) ∧ decode cX9_day 34 = .ok (.invokevirtual 143, 3) ∧ decode cX9_day 37 = .ok (.istore_n 1, 1) ∧ decode cX9_day 38 = .ok (.iload_n 1, 1) ∧ decode cX9_day 39 = .ok (.ifCond .lt 24, 3) ∧ decode cX9_day 42 = .ok (.aload_n 0, 1) ∧ decode cX9_day 43 = .ok (.getfield 9, 3) ∧ decode cX9_day 46 = .ok (.bipush 29, 2) ∧ decode cX9_day 48 = .ok (.iconst 5, 1) ∧ decode cX9_day 49 = .ok (.iload_n 1, 1) ∧ decode cX9_day 50 = .ok (.imul, 1) ∧ decode cX9_day 51 = .ok (.iadd, 1) ∧ decode cX9_day 52 = .ok (.iconst 4, 1) := by decide +kernel
theorem dX9_day_27 : decode cX9_day 27 = .ok (.aload_n 0, 1) := dgX9_day_1.1
theorem dX9_day_28 : decode cX9_day 28 = .ok (.invokevirtual 148, 3) := dgX9_day_1.2.1
theorem dX9_day_31 : decode cX9_day 31 = .ok (.bipush 12, 2) := dgX9_day_1.2.2.1
theorem dX9_day_33 : decode cX9_day 33 = .ok (.irem, 1) := dgX9_day_1.2.2.2.1
theorem dX9_day_34 : decode cX9_day 34 = .ok (.invokevirtual 143, 3) := dgX9_day_1.2.2.2.2.1
theorem dX9_day_37 : decode cX9_day 37 = .ok (.istore_n 1, 1) := dgX9_day_1.2.2.2.2.2.1
theorem dX9_day_38 : decode cX9_day 38 = .ok (.iload_n 1, 1) := dgX9_day_1.2.2.2.2.2.2.1
theorem dX9_day_39 : decode cX9_day 39 = .ok (.ifCond .lt 24, 3) := dgX9_day_1.2.2.2.2.2.2.2.1
theorem dX9_day_42 : decode cX9_day 42 = .ok (.aload_n 0, 1) := dgX9_day_1.2.2.2.2.2.2.2.2.1
theorem dX9_day_43 : decode cX9_day 43 = .ok (.getfield 9, 3) := dgX9_day_1.2.2.2.2.2.2.2.2.2.1
theorem dX9_day_46 : decode cX9_day 46 = .ok (.bipush 29, 2) := dgX9_day_1.2.2.2.2.2.2.2.2.2.2.1
theorem dX9_day_48 : decode cX9_day 48 = .ok (.iconst 5, 1) := dgX9_day_1.2.2.2.2.2.2.2.2.2.2.2.1
theorem dX9_day_49 : decode cX9_day 49 = .ok (.iload_n 1, 1) := dgX9_day_1.2.2.2.2.2.2.2.2.2.2.2.2.1
theorem dX9_day_50 : decode cX9_day 50 = .ok (.imul, 1) := dgX9_day_1.2.2.2.2.2.2.2.2.2.2.2.2.2.1
theorem dX9_day_51 : decode cX9_day 51 = .ok (.iadd, 1) := dgX9_day_1.2.2.2.2.2.2.2.2.2.2.2.2.2.2.1
theorem dX9_day_52 : decode cX9_day 52 = .ok (.iconst 4, 1) := dgX9_day_1.2.2.2.2.2.2.2.2.2.2.2.2.2.2.2
theorem dgX9_day_2 : decode cX9_day 53 = .ok (.iadd, 1) ∧ decode cX9_day 54 = .ok (.iconst 1, 1) ∧ decode cX9_day 55 = .ok (.aload_n 0, 1) ∧ decode cX9_day 56 = .ok (.iload_n 1, 1) ∧ decode cX9_day 57 = .ok (.iconst 4, 1) ∧ decode cX9_day 58 = .ok (.invokevirtual 96, 3) ∧ decode cX9_day 61 = .ok (.isub, 1) ∧ decode cX9_day 62 = .ok (.iastore, 1) ∧ decode cX9_day 63 = .ok (.aload_n 0, 1) ∧ decode cX9_day 64 = .ok (.getfield 9, 3) ∧ decode cX9_day 67 = .ok (.iconst 2, 1) ∧ decode cX9_day 68 = .ok (.dup2, 1) ∧ decode cX9_day 69 = .ok (.iaload, 1) ∧ decode cX9_day 70 = .ok (.iconst 1, 1) ∧ decode cX9_day 71 = .ok (.iadd, 1) ∧ decode cX9_day 72 = .ok (.iastore, 1) := by decide +kernel
theorem dX9_day_53 : decode cX9_day 53 = .ok (.iadd, 1) := dgX9_day_2.1
theorem dX9_day_54 : decode cX9_day 54 = .ok (.iconst 1, 1) := dgX9_day_2.2.1
theorem dX9_day_55 : decode cX9_day 55 = .ok (.aload_n 0, 1) := dgX9_day_2.2.2.1
theorem dX9_day_56 : decode cX9_day 56 = .ok (.iload_n 1, 1) := dgX9_day_2.2.2.2.1
theorem dX9_day_57 : decode cX9_day 57 = .ok (.iconst 4, 1) := dgX9_day_2.2.2.2.2.1
theorem dX9_day_58 : decode cX9_day 58 = .ok (.invokevirtual 96, 3) := dgX9_day_2.2.2.2.2.2.1
theorem dX9_day_61 : decode cX9_day 61 = .ok (.isub, 1) := dgX9_day_2.2.2.2.2.2.2.1
theorem dX9_day_62 : decode cX9_day 62 = .ok (.iastore, 1) := dgX9_day_2.2.2.2.2.2.2.2.1
theorem dX9_day_63 : decode cX9_day 63 = .ok (.aload_n 0, 1) := dgX9_day_2.2.2.2.2.2.2.2.2.1
theorem dX9_day_64 : decode cX9_day 64 = .ok (.getfield 9, 3) := dgX9_day_2.2.2.2.2.2.2.2.2.2.1
theorem dX9_day_67 : decode cX9_day 67 = .ok (.iconst 2, 1) := dgX9_day_2.2.2.2.2.2.2.2.2.2.2.1
theorem dX9_day_68 : decode cX9_day 68 = .ok (.dup2, 1) := dgX9_day_2.2.2.2.2.2.2.2.2.2.2.2.1
theorem dX9_day_69 : decode cX9_day 69 = .ok (.iaload, 1) := dgX9_day_2.2.2.2.2.2.2.2.2.2.2.2.2.1
theorem dX9_day_70 : decode cX9_day 70 = .ok (.iconst 1, 1) := dgX9_day_2.2.2.2.2.2.2.2.2.2.2.2.2.2.1
theorem dX9_day_71 : decode cX9_day 71 = .ok (.iadd, 1) := dgX9_day_2.2.2.2.2.2.2.2.2.2.2.2.2.2.2.1
theorem dX9_day_72 : decode cX9_day 72 = .ok (.iastore, 1) := dgX9_day_2.2.2.2.2.2.2.2.2.2.2.2.2.2.2.2
theorem dX9_day_73 : decode cX9_day 73 = .ok (.return_, 1) := by decide +kernel
abbrev pX9_day : List Nat := [0, 63]
def bX9_day_0 (cal : ab_F) : ab_K := o_aload 0 <| o_aload 0 <| o_callV cal 154 0 8 <| o_push (.int 4) <| o_div (fun x y => x - x / y * y) <| o_callV cal 158 1 8 <| o_aload 0 <| o_callV cal 154 0 8 <| o_push (.int 100) <| o_div (fun x y => x - x / y * y) <| o_aload 0 <| o_getf 8 0 <| o_push (.int 3) <| o_iald 0 <| o_cmp (fun x y => decide (y ≤ x)) 1 <| o_aload 0 <| o_aload 0 <| o_callV cal 154 0 8 <| o_push (.int 12) <| o_div (fun x y => x - x / y * y) <| o_callV cal 149 1 8 <| o_istore 1 <| o_iload 1 <| o_if (fun x => decide (x < 0)) 1 <| o_aload 0 <| o_getf 8 0 <| o_push (.int 29) <| o_push (.int 5) <| o_iload 1 <| o_bin (fun x y => x * y) <| o_bin (fun x y => x + y) <| o_push (.int 4) <| o_bin (fun x y => x + y) <| o_push (.int 1) <| o_aload 0 <| o_iload 1 <| o_push (.int 4) <| o_callV cal 135 2 8 <| o_bin (fun x y => x - y) <| o_iast 0 (fun x => x) <| o_goto 1
def bX9_day_1 (cal : ab_F) : ab_K := o_aload 0 <| o_getf 8 0 <| o_push (.int 2) <| o_dup2 <| o_iald 0 <| o_push (.int 1) <| o_bin (fun x y => x + y) <| o_iast 0 (fun x => x) <| o_ret none
def bX9_day (cal : ab_F) : List ab_K := [bX9_day_0 cal, bX9_day_1 cal]
set_option maxRecDepth 100000 in
theorem sX9_day_0 {G : ab_G} {xs : List Int32} {d : Nat} {cal : ab_F} (hcs : ab_CS G (ab_Z G xs) ab_Mf cal d) : ab_Sd G (ab_Z G xs) (d + 1) (ab_mY mX9_day pX9_day) 0 (bX9_day_0 cal) :=
  sn_aload_n dX9_day_0 rfl <| sn_aload_n dX9_day_1 rfl <| sq_callV mt_154 hcs dX9_day_2 rfl w_1212 w_1214 w_28 w_63 w_1215 hy_154 hm_154 <| sn_iconst dX9_day_5 rfl <| sn_irem dX9_day_6 <| sq_callV mt_158 hcs dX9_day_7 rfl w_1237 w_1239 w_32 w_63 w_1240 hy_158 hm_158 <| sn_aload_n dX9_day_10 rfl <| sq_callV mt_154 hcs dX9_day_11 rfl w_1212 w_1214 w_28 w_63 w_1215 hy_154 hm_154 <| sn_bipush dX9_day_14 rfl <| sn_irem dX9_day_16 <| sn_aload_n dX9_day_17 rfl <| sn_getf dX9_day_18 rfl hinX9 (by decide) w_991 <| sn_iconst dX9_day_21 rfl <| sn_iald dX9_day_22 rfl <| sn_cmp_ge (tg := 63) dX9_day_23 rfl rfl <| sn_aload_n dX9_day_26 rfl <| sn_aload_n dX9_day_27 rfl <| sq_callV mt_154 hcs dX9_day_28 rfl w_1212 w_1214 w_28 w_63 w_1215 hy_154 hm_154 <| sn_bipush dX9_day_31 rfl <| sn_irem dX9_day_33 <| sq_callV mt_149 hcs dX9_day_34 rfl w_1191 w_1193 w_27 w_63 w_1194 hy_149 hm_149 <| sn_istore_n dX9_day_37 rfl (by decide) <| sn_iload_n dX9_day_38 rfl <| sn_if_lt (tg := 63) dX9_day_39 rfl rfl <| sn_aload_n dX9_day_42 rfl <| sn_getf dX9_day_43 rfl hinX9 (by decide) w_991 <| sn_bipush dX9_day_46 rfl <| sn_iconst dX9_day_48 rfl <| sn_iload_n dX9_day_49 rfl <| sn_imul dX9_day_50 <| sn_iadd dX9_day_51 <| sn_iconst dX9_day_52 rfl <| sn_iadd dX9_day_53 <| sn_iconst dX9_day_54 rfl <| sn_aload_n dX9_day_55 rfl <| sn_iload_n dX9_day_56 rfl <| sn_iconst dX9_day_57 rfl <| sq_callV mt_135 hcs dX9_day_58 rfl w_1123 w_1125 w_18 w_63 w_1126 hy_135 hm_135 <| sn_isub dX9_day_61 <| sn_iast dX9_day_62 rfl rfl <| sn_next rfl
set_option maxRecDepth 100000 in
theorem sX9_day_1 {G : ab_G} {xs : List Int32} {d : Nat} {cal : ab_F} (hcs : ab_CS G (ab_Z G xs) ab_Mf cal d) : ab_Sd G (ab_Z G xs) (d + 1) (ab_mY mX9_day pX9_day) 63 (bX9_day_1 cal) :=
  sn_aload_n dX9_day_63 rfl <| sn_getf dX9_day_64 rfl hinX9 (by decide) w_991 <| sn_iconst dX9_day_67 rfl <| sn_dup2 dX9_day_68 <| sn_iald dX9_day_69 rfl <| sn_iconst dX9_day_70 rfl <| sn_iadd dX9_day_71 <| sn_iast dX9_day_72 rfl rfl <| sn_ret dX9_day_73 ab_ri_void
theorem sX9_day {G : ab_G} {xs : List Int32} {d : Nat} {cal : ab_F} (hcs : ab_CS G (ab_Z G xs) ab_Mf cal d) : ab_BS G (ab_Z G xs) (d + 1) (ab_mY mX9_day pX9_day) pX9_day (bX9_day cal) := ⟨sX9_day_0 hcs, sX9_day_1 hcs, trivial⟩
theorem dgX9_goesOn_0 : decode cX9_goesOn 0 = .ok (.iconst 0, 1) ∧ decode cX9_goesOn 1 = .ok (.istore_n 2, 1) ∧ decode cX9_goesOn 2 = .ok (.iload_n 2, 1) ∧ decode cX9_goesOn 3 = .ok (.iload_n 1, 1) ∧ decode cX9_goesOn 4 = .ok (.if_icmp .ge 13, 3) ∧ decode cX9_goesOn 7 = .ok (.aload_n 0, 1) ∧ decode cX9_goesOn 8 = .ok (.invokevirtual 156, 3) ∧ decode cX9_goesOn 11 = .ok (.iinc 2 1, 3) ∧ decode cX9_goesOn 14 = .ok (.goto (-12), 3) ∧ decode cX9_goesOn 17 = .ok (.return_, 1) := by decide +kernel
theorem dX9_goesOn_0 : decode cX9_goesOn 0 = .ok (.iconst 0, 1) := dgX9_goesOn_0.1
theorem dX9_goesOn_1 : decode cX9_goesOn 1 = .ok (.istore_n 2, 1) := dgX9_goesOn_0.2.1
theorem dX9_goesOn_2 : decode cX9_goesOn 2 = .ok (.iload_n 2, 1) := dgX9_goesOn_0.2.2.1
theorem dX9_goesOn_3 : decode cX9_goesOn 3 = .ok (.iload_n 1, 1) := dgX9_goesOn_0.2.2.2.1
theorem dX9_goesOn_4 : decode cX9_goesOn 4 = .ok (.if_icmp .ge 13, 3) := dgX9_goesOn_0.2.2.2.2.1
theorem dX9_goesOn_7 : decode cX9_goesOn 7 = .ok (.aload_n 0, 1) := dgX9_goesOn_0.2.2.2.2.2.1
theorem dX9_goesOn_8 : decode cX9_goesOn 8 = .ok (.invokevirtual 156, 3) := dgX9_goesOn_0.2.2.2.2.2.2.1
theorem dX9_goesOn_11 : decode cX9_goesOn 11 = .ok (.iinc 2 1, 3) := dgX9_goesOn_0.2.2.2.2.2.2.2.1
theorem dX9_goesOn_14 : decode cX9_goesOn 14 = .ok (.goto (-12), 3) := dgX9_goesOn_0.2.2.2.2.2.2.2.2.1
theorem dX9_goesOn_17 : decode cX9_goesOn 17 = .ok (.return_, 1) := dgX9_goesOn_0.2.2.2.2.2.2.2.2.2
abbrev pX9_goesOn : List Nat := [0, 2, 17]
def bX9_goesOn_0 (cal : ab_F) : ab_K := o_push (.int 0) <| o_istore 2 <| o_goto 1
def bX9_goesOn_1 (cal : ab_F) : ab_K := o_iload 2 <| o_iload 1 <| o_cmp (fun x y => decide (y ≤ x)) 2 <| o_aload 0 <| o_callV cal 159 0 8 <| o_iinc 2 1 <| o_goto 1
def bX9_goesOn_2 (cal : ab_F) : ab_K := o_ret none
def bX9_goesOn (cal : ab_F) : List ab_K := [bX9_goesOn_0 cal, bX9_goesOn_1 cal, bX9_goesOn_2 cal]
set_option maxRecDepth 100000 in
theorem sX9_goesOn_0 {G : ab_G} {xs : List Int32} {d : Nat} {cal : ab_F} (hcs : ab_CS G (ab_Z G xs) ab_Mf cal d) : ab_Sd G (ab_Z G xs) (d + 1) (ab_mY mX9_goesOn pX9_goesOn) 0 (bX9_goesOn_0 cal) :=
  sn_iconst dX9_goesOn_0 rfl <| sn_istore_n dX9_goesOn_1 rfl (by decide) <| sn_next rfl
set_option maxRecDepth 100000 in
theorem sX9_goesOn_1 {G : ab_G} {xs : List Int32} {d : Nat} {cal : ab_F} (hcs : ab_CS G (ab_Z G xs) ab_Mf cal d) : ab_Sd G (ab_Z G xs) (d + 1) (ab_mY mX9_goesOn pX9_goesOn) 2 (bX9_goesOn_1 cal) :=
  sn_iload_n dX9_goesOn_2 rfl <| sn_iload_n dX9_goesOn_3 rfl <| sn_cmp_ge (tg := 17) dX9_goesOn_4 rfl rfl <| sn_aload_n dX9_goesOn_7 rfl <| sq_callV mt_159 hcs dX9_goesOn_8 rfl w_1233 w_1235 w_31 w_63 w_1236 hy_159 hm_159 <| sn_iinc dX9_goesOn_11 rfl (by decide) <| sn_goto (tg := 2) dX9_goesOn_14 rfl rfl
set_option maxRecDepth 100000 in
theorem sX9_goesOn_2 {G : ab_G} {xs : List Int32} {d : Nat} {cal : ab_F} (hcs : ab_CS G (ab_Z G xs) ab_Mf cal d) : ab_Sd G (ab_Z G xs) (d + 1) (ab_mY mX9_goesOn pX9_goesOn) 17 (bX9_goesOn_2 cal) :=
  sn_ret dX9_goesOn_17 ab_ri_void
theorem sX9_goesOn {G : ab_G} {xs : List Int32} {d : Nat} {cal : ab_F} (hcs : ab_CS G (ab_Z G xs) ab_Mf cal d) : ab_BS G (ab_Z G xs) (d + 1) (ab_mY mX9_goesOn pX9_goesOn) pX9_goesOn (bX9_goesOn cal) := ⟨sX9_goesOn_0 hcs, sX9_goesOn_1 hcs, sX9_goesOn_2 hcs, trivial⟩
theorem dgX9_days_0 : decode cX9_days 0 = .ok (.iload_n 1, 1) ∧ decode cX9_days 1 = .ok (.iconst 1, 1) ∧ decode cX9_days 2 = .ok (.bipush 100, 2) ∧ decode cX9_days 4 = .ok (.invokestatic 86, 3) ∧ decode cX9_days 7 = .ok (.ifCond .ne 6, 3) ∧ decode cX9_days 10 = .ok (.ldc 90, 2) ∧ decode cX9_days 12 = .ok (.ireturn, 1) ∧ decode cX9_days 13 = .ok (.aload_n 0, 1) ∧ decode cX9_days 14 = .ok (.invokevirtual 159, 3) ∧ decode cX9_days 17 = .ok (.istore_n 2, 1) ∧ decode cX9_days 18 = .ok (.aload_n 0, 1) ∧ decode cX9_days 19 = .ok (.sipush 9999, 3) ∧ decode cX9_days 22 = .ok (.aload_n 0, 1) ∧ decode cX9_days 23 = .ok (.getfield 9, 3) ∧ decode cX9_days 26 = .ok (.iconst 2, 1) ∧ decode cX9_days 27 = .ok (.iaload, 1) := by decide +kernel
theorem dX9_days_0 : decode cX9_days 0 = .ok (.iload_n 1, 1) := dgX9_days_0.1
theorem dX9_days_1 : decode cX9_days 1 = .ok (.iconst 1, 1) := dgX9_days_0.2.1
theorem dX9_days_2 : decode cX9_days 2 = .ok (.bipush 100, 2) := dgX9_days_0.2.2.1
theorem dX9_days_4 : decode cX9_days 4 = .ok (.invokestatic 86, 3) := dgX9_days_0.2.2.2.1
theorem dX9_days_7 : decode cX9_days 7 = .ok (.ifCond .ne 6, 3) := dgX9_days_0.2.2.2.2.1
theorem dX9_days_10 : decode cX9_days 10 = .ok (.ldc 90, 2) := dgX9_days_0.2.2.2.2.2.1
theorem dX9_days_12 : decode cX9_days 12 = .ok (.ireturn, 1) := dgX9_days_0.2.2.2.2.2.2.1
theorem dX9_days_13 : decode cX9_days 13 = .ok (.aload_n 0, 1) := dgX9_days_0.2.2.2.2.2.2.2.1
theorem dX9_days_14 : decode cX9_days 14 = .ok (.invokevirtual 159, 3) := dgX9_days_0.2.2.2.2.2.2.2.2.1
theorem dX9_days_17 : decode cX9_days 17 = .ok (.istore_n 2, 1) := dgX9_days_0.2.2.2.2.2.2.2.2.2.1
theorem dX9_days_18 : decode cX9_days 18 = .ok (.aload_n 0, 1) := dgX9_days_0.2.2.2.2.2.2.2.2.2.2.1
theorem dX9_days_19 : decode cX9_days 19 = .ok (.sipush 9999, 3) := dgX9_days_0.2.2.2.2.2.2.2.2.2.2.2.1
theorem dX9_days_22 : decode cX9_days 22 = .ok (.aload_n 0, 1) := dgX9_days_0.2.2.2.2.2.2.2.2.2.2.2.2.1
theorem dX9_days_23 : decode cX9_days 23 = .ok (.getfield 9, 3) := dgX9_days_0.2.2.2.2.2.2.2.2.2.2.2.2.2.1
theorem dX9_days_26 : decode cX9_days 26 = .ok (.iconst 2, 1) := dgX9_days_0.2.2.2.2.2.2.2.2.2.2.2.2.2.2.1
theorem dX9_days_27 : decode cX9_days 27 = .ok (.iaload, 1) := dgX9_days_0.2.2.2.2.2.2.2.2.2.2.2.2.2.2.2
theorem dgX9_days_1 : decode cX9_days 28 = .ok (.isub, 1) ∧ decode cX9_days 29 = .ok (.iconst 0, 1) ∧ decode cX9_days 30 = .ok (.iload_n 1, 1) ∧ decode cX9_days 31 = .ok (.invokestatic 117, 3) ∧ decode cX9_days 34 = .ok (.invokevirtual 162, 3) ∧ decode cX9_days 37 = .ok (.aload_n 0, 1) ∧ decode cX9_days 38 = .ok (.invokevirtual 159, 3) ∧ decode cX9_days 41 = .ok (.iload_n 2, 1) ∧ decode cX9_days 42 = .ok (.isub, 1) ∧ decode cX9_days 43 = .ok (.ireturn, 1) := by decide +kernel
theorem dX9_days_28 : decode cX9_days 28 = .ok (.isub, 1) := dgX9_days_1.1
theorem dX9_days_29 : decode cX9_days 29 = .ok (.iconst 0, 1) := dgX9_days_1.2.1
theorem dX9_days_30 : decode cX9_days 30 = .ok (.iload_n 1, 1) := dgX9_days_1.2.2.1
theorem dX9_days_31 : decode cX9_days 31 = .ok (.invokestatic 117, 3) := dgX9_days_1.2.2.2.1
theorem dX9_days_34 : decode cX9_days 34 = .ok (.invokevirtual 162, 3) := dgX9_days_1.2.2.2.2.1
theorem dX9_days_37 : decode cX9_days 37 = .ok (.aload_n 0, 1) := dgX9_days_1.2.2.2.2.2.1
theorem dX9_days_38 : decode cX9_days 38 = .ok (.invokevirtual 159, 3) := dgX9_days_1.2.2.2.2.2.2.1
theorem dX9_days_41 : decode cX9_days 41 = .ok (.iload_n 2, 1) := dgX9_days_1.2.2.2.2.2.2.2.1
theorem dX9_days_42 : decode cX9_days 42 = .ok (.isub, 1) := dgX9_days_1.2.2.2.2.2.2.2.2.1
theorem dX9_days_43 : decode cX9_days 43 = .ok (.ireturn, 1) := dgX9_days_1.2.2.2.2.2.2.2.2.2
abbrev pX9_days : List Nat := [0, 13]
def bX9_days_0 (cal : ab_F) : ab_K := o_iload 1 <| o_push (.int 1) <| o_push (.int 100) <| o_callS cal 128 3 <| o_if (fun x => decide (¬ x = 0)) 1 <| o_push (.int (-1000000001)) <| o_ret (some .int)
def bX9_days_1 (cal : ab_F) : ab_K := o_aload 0 <| o_callV cal 157 0 8 <| o_istore 2 <| o_aload 0 <| o_push (.int 9999) <| o_aload 0 <| o_getf 8 0 <| o_push (.int 2) <| o_iald 0 <| o_bin (fun x y => x - y) <| o_push (.int 0) <| o_iload 1 <| o_callS cal 129 3 <| o_callV cal 160 1 8 <| o_aload 0 <| o_callV cal 157 0 8 <| o_iload 2 <| o_bin (fun x y => x - y) <| o_ret (some .int)
def bX9_days (cal : ab_F) : List ab_K := [bX9_days_0 cal, bX9_days_1 cal]
set_option maxRecDepth 100000 in
theorem sX9_days_0 {G : ab_G} {xs : List Int32} {d : Nat} {cal : ab_F} (hcs : ab_CS G (ab_Z G xs) ab_Mf cal d) : ab_Sd G (ab_Z G xs) (d + 1) (ab_mY mX9_days pX9_days) 0 (bX9_days_0 cal) :=
  sn_iload_n dX9_days_0 rfl <| sn_iconst dX9_days_1 rfl <| sn_bipush dX9_days_2 rfl <| sq_callS mt_128 hcs dX9_days_4 w_1106 w_1107 w_63 w_1108 hy_128 hm_128 <| sn_if_ne (tg := 13) dX9_days_7 rfl rfl <| sn_ldc dX9_days_10 w_1109 <| sn_ret dX9_days_12 ab_ri_int
set_option maxRecDepth 100000 in
theorem sX9_days_1 {G : ab_G} {xs : List Int32} {d : Nat} {cal : ab_F} (hcs : ab_CS G (ab_Z G xs) ab_Mf cal d) : ab_Sd G (ab_Z G xs) (d + 1) (ab_mY mX9_days pX9_days) 13 (bX9_days_1 cal) :=
  sn_aload_n dX9_days_13 rfl <| sq_callV mt_157 hcs dX9_days_14 rfl w_1225 w_1227 w_29 w_63 w_1228 hy_157 hm_157 <| sn_istore_n dX9_days_17 rfl (by decide) <| sn_aload_n dX9_days_18 rfl <| sn_sipush dX9_days_19 rfl <| sn_aload_n dX9_days_22 rfl <| sn_getf dX9_days_23 rfl hinX9 (by decide) w_991 <| sn_iconst dX9_days_26 rfl <| sn_iald dX9_days_27 rfl <| sn_isub dX9_days_28 <| sn_iconst dX9_days_29 rfl <| sn_iload_n dX9_days_30 rfl <| sq_callS mt_129 hcs dX9_days_31 w_1165 w_1166 w_63 w_1167 hy_129 hm_129 <| sq_callV mt_160 hcs dX9_days_34 rfl w_1229 w_1231 w_30 w_63 w_1232 hy_160 hm_160 <| sn_aload_n dX9_days_37 rfl <| sq_callV mt_157 hcs dX9_days_38 rfl w_1225 w_1227 w_29 w_63 w_1228 hy_157 hm_157 <| sn_iload_n dX9_days_41 rfl <| sn_isub dX9_days_42 <| sn_ret dX9_days_43 ab_ri_int
theorem sX9_days {G : ab_G} {xs : List Int32} {d : Nat} {cal : ab_F} (hcs : ab_CS G (ab_Z G xs) ab_Mf cal d) : ab_BS G (ab_Z G xs) (d + 1) (ab_mY mX9_days pX9_days) pX9_days (bX9_days cal) := ⟨sX9_days_0 hcs, sX9_days_1 hcs, trivial⟩
theorem dgX9_picture_0 : decode cX9_picture 0 = .ok (.iconst 0, 1) ∧ decode cX9_picture 1 = .ok (.istore_n 1, 1) ∧ decode cX9_picture 2 = .ok (.iconst 0, 1) ∧ decode cX9_picture 3 = .ok (.istore_n 2, 1) ∧ decode cX9_picture 4 = .ok (.iload_n 2, 1) ∧ decode cX9_picture 5 = .ok (.bipush 12, 2) ∧ decode cX9_picture 7 = .ok (.if_icmp .ge 40, 3) ∧ decode cX9_picture 10 = .ok (.aload_n 0, 1) ∧ decode cX9_picture 11 = .ok (.iload_n 2, 1) ∧ decode cX9_picture 12 = .ok (.invokevirtual 143, 3) ∧ decode cX9_picture 15 = .ok (.istore_n 3, 1) ∧ decode cX9_picture 16 = .ok (.iload_n 1, 1) ∧ decode cX9_picture 17 = .ok (.iload_n 3, 1) ∧ decode cX9_picture 18 = .ok (.ifCond .ge 9, 3) ∧ decode cX9_picture 21 = .ok (.sipush 198, 3) ∧ decode cX9_picture 24 = .ok (.goto 15, 3) := by decide +kernel
theorem dX9_picture_0 : decode cX9_picture 0 = .ok (.iconst 0, 1) := dgX9_picture_0.1
theorem dX9_picture_1 : decode cX9_picture 1 = .ok (.istore_n 1, 1) := dgX9_picture_0.2.1
theorem dX9_picture_2 : decode cX9_picture 2 = .ok (.iconst 0, 1) := dgX9_picture_0.2.2.1
theorem dX9_picture_3 : decode cX9_picture 3 = .ok (.istore_n 2, 1) := dgX9_picture_0.2.2.2.1
theorem dX9_picture_4 : decode cX9_picture 4 = .ok (.iload_n 2, 1) := dgX9_picture_0.2.2.2.2.1
theorem dX9_picture_5 : decode cX9_picture 5 = .ok (.bipush 12, 2) := dgX9_picture_0.2.2.2.2.2.1
theorem dX9_picture_7 : decode cX9_picture 7 = .ok (.if_icmp .ge 40, 3) := dgX9_picture_0.2.2.2.2.2.2.1
theorem dX9_picture_10 : decode cX9_picture 10 = .ok (.aload_n 0, 1) := dgX9_picture_0.2.2.2.2.2.2.2.1
theorem dX9_picture_11 : decode cX9_picture 11 = .ok (.iload_n 2, 1) := dgX9_picture_0.2.2.2.2.2.2.2.2.1
theorem dX9_picture_12 : decode cX9_picture 12 = .ok (.invokevirtual 143, 3) := dgX9_picture_0.2.2.2.2.2.2.2.2.2.1
theorem dX9_picture_15 : decode cX9_picture 15 = .ok (.istore_n 3, 1) := dgX9_picture_0.2.2.2.2.2.2.2.2.2.2.1
theorem dX9_picture_16 : decode cX9_picture 16 = .ok (.iload_n 1, 1) := dgX9_picture_0.2.2.2.2.2.2.2.2.2.2.2.1
theorem dX9_picture_17 : decode cX9_picture 17 = .ok (.iload_n 3, 1) := dgX9_picture_0.2.2.2.2.2.2.2.2.2.2.2.2.1
theorem dX9_picture_18 : decode cX9_picture 18 = .ok (.ifCond .ge 9, 3) := dgX9_picture_0.2.2.2.2.2.2.2.2.2.2.2.2.2.1
theorem dX9_picture_21 : decode cX9_picture 21 = .ok (.sipush 198, 3) := dgX9_picture_0.2.2.2.2.2.2.2.2.2.2.2.2.2.2.1
theorem dX9_picture_24 : decode cX9_picture 24 = .ok (.goto 15, 3) := dgX9_picture_0.2.2.2.2.2.2.2.2.2.2.2.2.2.2.2
theorem dgX9_picture_1 : decode cX9_picture 27 = .ok (.aload_n 0, 1) ∧ decode cX9_picture 28 = .ok (.iload_n 3, 1) ∧ decode cX9_picture 29 = .ok (.iload_n 2, 1) ∧ decode cX9_picture 30 = .ok (.aload_n 0, 1) ∧ decode cX9_picture 31 = .ok (.iload_n 3, 1) ∧ decode cX9_picture 32 = .ok (.iconst 4, 1) ∧ decode cX9_picture 33 = .ok (.invokevirtual 96, 3) ∧ decode cX9_picture 36 = .ok (.invokevirtual 132, 3) ∧ decode cX9_picture 39 = .ok (.iadd, 1) ∧ decode cX9_picture 40 = .ok (.istore_n 1, 1) ∧ decode cX9_picture 41 = .ok (.iinc 2 1, 3) ∧ decode cX9_picture 44 = .ok (.goto (-40), 3) ∧ decode cX9_picture 47 = .ok (.iload_n 1, 1) ∧ decode cX9_picture 48 = .ok (.ireturn, 1) := by decide +kernel
theorem dX9_picture_27 : decode cX9_picture 27 = .ok (.aload_n 0, 1) := dgX9_picture_1.1
theorem dX9_picture_28 : decode cX9_picture 28 = .ok (.iload_n 3, 1) := dgX9_picture_1.2.1
theorem dX9_picture_29 : decode cX9_picture 29 = .ok (.iload_n 2, 1) := dgX9_picture_1.2.2.1
theorem dX9_picture_30 : decode cX9_picture 30 = .ok (.aload_n 0, 1) := dgX9_picture_1.2.2.2.1
theorem dX9_picture_31 : decode cX9_picture 31 = .ok (.iload_n 3, 1) := dgX9_picture_1.2.2.2.2.1
theorem dX9_picture_32 : decode cX9_picture 32 = .ok (.iconst 4, 1) := dgX9_picture_1.2.2.2.2.2.1
theorem dX9_picture_33 : decode cX9_picture 33 = .ok (.invokevirtual 96, 3) := dgX9_picture_1.2.2.2.2.2.2.1
theorem dX9_picture_36 : decode cX9_picture 36 = .ok (.invokevirtual 132, 3) := dgX9_picture_1.2.2.2.2.2.2.2.1
theorem dX9_picture_39 : decode cX9_picture 39 = .ok (.iadd, 1) := dgX9_picture_1.2.2.2.2.2.2.2.2.1
theorem dX9_picture_40 : decode cX9_picture 40 = .ok (.istore_n 1, 1) := dgX9_picture_1.2.2.2.2.2.2.2.2.2.1
theorem dX9_picture_41 : decode cX9_picture 41 = .ok (.iinc 2 1, 3) := dgX9_picture_1.2.2.2.2.2.2.2.2.2.2.1
theorem dX9_picture_44 : decode cX9_picture 44 = .ok (.goto (-40), 3) := dgX9_picture_1.2.2.2.2.2.2.2.2.2.2.2.1
theorem dX9_picture_47 : decode cX9_picture 47 = .ok (.iload_n 1, 1) := dgX9_picture_1.2.2.2.2.2.2.2.2.2.2.2.2.1
theorem dX9_picture_48 : decode cX9_picture 48 = .ok (.ireturn, 1) := dgX9_picture_1.2.2.2.2.2.2.2.2.2.2.2.2.2
abbrev pX9_picture : List Nat := [0, 4, 27, 39, 47]
def bX9_picture_0 (cal : ab_F) : ab_K := o_push (.int 0) <| o_istore 1 <| o_push (.int 0) <| o_istore 2 <| o_goto 1
def bX9_picture_1 (cal : ab_F) : ab_K := o_iload 2 <| o_push (.int 12) <| o_cmp (fun x y => decide (y ≤ x)) 4 <| o_aload 0 <| o_iload 2 <| o_callV cal 149 1 8 <| o_istore 3 <| o_iload 1 <| o_iload 3 <| o_if (fun x => decide (0 ≤ x)) 2 <| o_push (.int 198) <| o_goto 3
def bX9_picture_2 (cal : ab_F) : ab_K := o_aload 0 <| o_iload 3 <| o_iload 2 <| o_aload 0 <| o_iload 3 <| o_push (.int 4) <| o_callV cal 135 2 8 <| o_callV cal 144 3 8 <| o_goto 3
def bX9_picture_3 (cal : ab_F) : ab_K := o_bin (fun x y => x + y) <| o_istore 1 <| o_iinc 2 1 <| o_goto 1
def bX9_picture_4 (cal : ab_F) : ab_K := o_iload 1 <| o_ret (some .int)
def bX9_picture (cal : ab_F) : List ab_K := [bX9_picture_0 cal, bX9_picture_1 cal, bX9_picture_2 cal, bX9_picture_3 cal, bX9_picture_4 cal]
set_option maxRecDepth 100000 in
theorem sX9_picture_0 {G : ab_G} {xs : List Int32} {d : Nat} {cal : ab_F} (hcs : ab_CS G (ab_Z G xs) ab_Mf cal d) : ab_Sd G (ab_Z G xs) (d + 1) (ab_mY mX9_picture pX9_picture) 0 (bX9_picture_0 cal) :=
  sn_iconst dX9_picture_0 rfl <| sn_istore_n dX9_picture_1 rfl (by decide) <| sn_iconst dX9_picture_2 rfl <| sn_istore_n dX9_picture_3 rfl (by decide) <| sn_next rfl
set_option maxRecDepth 100000 in
theorem sX9_picture_1 {G : ab_G} {xs : List Int32} {d : Nat} {cal : ab_F} (hcs : ab_CS G (ab_Z G xs) ab_Mf cal d) : ab_Sd G (ab_Z G xs) (d + 1) (ab_mY mX9_picture pX9_picture) 4 (bX9_picture_1 cal) :=
  sn_iload_n dX9_picture_4 rfl <| sn_bipush dX9_picture_5 rfl <| sn_cmp_ge (tg := 47) dX9_picture_7 rfl rfl <| sn_aload_n dX9_picture_10 rfl <| sn_iload_n dX9_picture_11 rfl <| sq_callV mt_149 hcs dX9_picture_12 rfl w_1191 w_1193 w_27 w_63 w_1194 hy_149 hm_149 <| sn_istore_n dX9_picture_15 rfl (by decide) <| sn_iload_n dX9_picture_16 rfl <| sn_iload_n dX9_picture_17 rfl <| sn_if_ge (tg := 27) dX9_picture_18 rfl rfl <| sn_sipush dX9_picture_21 rfl <| sn_goto (tg := 39) dX9_picture_24 rfl rfl
set_option maxRecDepth 100000 in
theorem sX9_picture_2 {G : ab_G} {xs : List Int32} {d : Nat} {cal : ab_F} (hcs : ab_CS G (ab_Z G xs) ab_Mf cal d) : ab_Sd G (ab_Z G xs) (d + 1) (ab_mY mX9_picture pX9_picture) 27 (bX9_picture_2 cal) :=
  sn_aload_n dX9_picture_27 rfl <| sn_iload_n dX9_picture_28 rfl <| sn_iload_n dX9_picture_29 rfl <| sn_aload_n dX9_picture_30 rfl <| sn_iload_n dX9_picture_31 rfl <| sn_iconst dX9_picture_32 rfl <| sq_callV mt_135 hcs dX9_picture_33 rfl w_1123 w_1125 w_18 w_63 w_1126 hy_135 hm_135 <| sq_callV mt_144 hcs dX9_picture_36 rfl w_1142 w_1144 w_21 w_63 w_1145 hy_144 hm_144 <| sn_next rfl
set_option maxRecDepth 100000 in
theorem sX9_picture_3 {G : ab_G} {xs : List Int32} {d : Nat} {cal : ab_F} (hcs : ab_CS G (ab_Z G xs) ab_Mf cal d) : ab_Sd G (ab_Z G xs) (d + 1) (ab_mY mX9_picture pX9_picture) 39 (bX9_picture_3 cal) :=
  sn_iadd dX9_picture_39 <| sn_istore_n dX9_picture_40 rfl (by decide) <| sn_iinc dX9_picture_41 rfl (by decide) <| sn_goto (tg := 4) dX9_picture_44 rfl rfl
set_option maxRecDepth 100000 in
theorem sX9_picture_4 {G : ab_G} {xs : List Int32} {d : Nat} {cal : ab_F} (hcs : ab_CS G (ab_Z G xs) ab_Mf cal d) : ab_Sd G (ab_Z G xs) (d + 1) (ab_mY mX9_picture pX9_picture) 47 (bX9_picture_4 cal) :=
  sn_iload_n dX9_picture_47 rfl <| sn_ret dX9_picture_48 ab_ri_int
theorem sX9_picture {G : ab_G} {xs : List Int32} {d : Nat} {cal : ab_F} (hcs : ab_CS G (ab_Z G xs) ab_Mf cal d) : ab_BS G (ab_Z G xs) (d + 1) (ab_mY mX9_picture pX9_picture) pX9_picture (bX9_picture cal) := ⟨sX9_picture_0 hcs, sX9_picture_1 hcs, sX9_picture_2 hcs, sX9_picture_3 hcs, sX9_picture_4 hcs, trivial⟩
theorem dgX9_matches_0 : decode cX9_matches 0 = .ok (.iconst 0, 1) ∧ decode cX9_matches 1 = .ok (.istore_n 1, 1) ∧ decode cX9_matches 2 = .ok (.iconst 0, 1) ∧ decode cX9_matches 3 = .ok (.istore_n 2, 1) ∧ decode cX9_matches 4 = .ok (.iload_n 2, 1) ∧ decode cX9_matches 5 = .ok (.bipush 11, 2) ∧ decode cX9_matches 7 = .ok (.if_icmp .ge 77, 3) ∧ decode cX9_matches 10 = .ok (.aload_n 0, 1) ∧ decode cX9_matches 11 = .ok (.iload_n 2, 1) ∧ decode cX9_matches 12 = .ok (.invokevirtual 143, 3) ∧ decode cX9_matches 15 = .ok (.istore_n 3, 1) ∧ decode cX9_matches 16 = .ok (.aload_n 0, 1) ∧ decode cX9_matches 17 = .ok (.iload_n 2, 1) ∧ decode cX9_matches 18 = .ok (.iconst 1, 1) ∧ decode cX9_matches 19 = .ok (.iadd, 1) ∧ decode cX9_matches 20 = .ok (.invokevirtual 143, 3) := by decide +kernel
theorem dX9_matches_0 : decode cX9_matches 0 = .ok (.iconst 0, 1) := dgX9_matches_0.1
theorem dX9_matches_1 : decode cX9_matches 1 = .ok (.istore_n 1, 1) := dgX9_matches_0.2.1
theorem dX9_matches_2 : decode cX9_matches 2 = .ok (.iconst 0, 1) := dgX9_matches_0.2.2.1
theorem dX9_matches_3 : decode cX9_matches 3 = .ok (.istore_n 2, 1) := dgX9_matches_0.2.2.2.1
theorem dX9_matches_4 : decode cX9_matches 4 = .ok (.iload_n 2, 1) := dgX9_matches_0.2.2.2.2.1
theorem dX9_matches_5 : decode cX9_matches 5 = .ok (.bipush 11, 2) := dgX9_matches_0.2.2.2.2.2.1
theorem dX9_matches_7 : decode cX9_matches 7 = .ok (.if_icmp .ge 77, 3) := dgX9_matches_0.2.2.2.2.2.2.1
theorem dX9_matches_10 : decode cX9_matches 10 = .ok (.aload_n 0, 1) := dgX9_matches_0.2.2.2.2.2.2.2.1
theorem dX9_matches_11 : decode cX9_matches 11 = .ok (.iload_n 2, 1) := dgX9_matches_0.2.2.2.2.2.2.2.2.1
theorem dX9_matches_12 : decode cX9_matches 12 = .ok (.invokevirtual 143, 3) := dgX9_matches_0.2.2.2.2.2.2.2.2.2.1
theorem dX9_matches_15 : decode cX9_matches 15 = .ok (.istore_n 3, 1) := dgX9_matches_0.2.2.2.2.2.2.2.2.2.2.1
theorem dX9_matches_16 : decode cX9_matches 16 = .ok (.aload_n 0, 1) := dgX9_matches_0.2.2.2.2.2.2.2.2.2.2.2.1
theorem dX9_matches_17 : decode cX9_matches 17 = .ok (.iload_n 2, 1) := dgX9_matches_0.2.2.2.2.2.2.2.2.2.2.2.2.1
theorem dX9_matches_18 : decode cX9_matches 18 = .ok (.iconst 1, 1) := dgX9_matches_0.2.2.2.2.2.2.2.2.2.2.2.2.2.1
theorem dX9_matches_19 : decode cX9_matches 19 = .ok (.iadd, 1) := dgX9_matches_0.2.2.2.2.2.2.2.2.2.2.2.2.2.2.1
theorem dX9_matches_20 : decode cX9_matches 20 = .ok (.invokevirtual 143, 3) := dgX9_matches_0.2.2.2.2.2.2.2.2.2.2.2.2.2.2.2
theorem dgX9_matches_1 : decode cX9_matches 23 = .ok (.istore 4, 2) ∧ decode cX9_matches 25 = .ok (.iload_n 2, 1) ∧ decode cX9_matches 26 = .ok (.iconst 3, 1) ∧ decode cX9_matches 27 = .ok (.irem, 1) ∧ decode cX9_matches 28 = .ok (.iconst 2, 1) ∧ decode cX9_matches 29 = .ok (.if_icmp .ge 49, 3) ∧ decode cX9_matches 32 = .ok (.iload_n 3, 1) ∧ decode cX9_matches 33 = .ok (.ifCond .lt 45, 3) ∧ decode cX9_matches 36 = .ok (.iload 4, 2) ∧ decode cX9_matches 38 = .ok (.ifCond .lt 40, 3) ∧ decode cX9_matches 41 = .ok (.iload_n 1, 1) ∧ decode cX9_matches 42 = .ok (.aload_n 0, 1) ∧ decode cX9_matches 43 = .ok (.iload_n 3, 1) ∧ decode cX9_matches 44 = .ok (.iconst 1, 1) ∧ decode cX9_matches 45 = .ok (.aload_n 0, 1) ∧ decode cX9_matches 46 = .ok (.iload_n 3, 1) := by decide +kernel
theorem dX9_matches_23 : decode cX9_matches 23 = .ok (.istore 4, 2) := dgX9_matches_1.1
theorem dX9_matches_25 : decode cX9_matches 25 = .ok (.iload_n 2, 1) := dgX9_matches_1.2.1
theorem dX9_matches_26 : decode cX9_matches 26 = .ok (.iconst 3, 1) := dgX9_matches_1.2.2.1
theorem dX9_matches_27 : decode cX9_matches 27 = .ok (.irem, 1) := dgX9_matches_1.2.2.2.1
theorem dX9_matches_28 : decode cX9_matches 28 = .ok (.iconst 2, 1) := dgX9_matches_1.2.2.2.2.1
theorem dX9_matches_29 : decode cX9_matches 29 = .ok (.if_icmp .ge 49, 3) := dgX9_matches_1.2.2.2.2.2.1
theorem dX9_matches_32 : decode cX9_matches 32 = .ok (.iload_n 3, 1) := dgX9_matches_1.2.2.2.2.2.2.1
theorem dX9_matches_33 : decode cX9_matches 33 = .ok (.ifCond .lt 45, 3) := dgX9_matches_1.2.2.2.2.2.2.2.1
theorem dX9_matches_36 : decode cX9_matches 36 = .ok (.iload 4, 2) := dgX9_matches_1.2.2.2.2.2.2.2.2.1
theorem dX9_matches_38 : decode cX9_matches 38 = .ok (.ifCond .lt 40, 3) := dgX9_matches_1.2.2.2.2.2.2.2.2.2.1
theorem dX9_matches_41 : decode cX9_matches 41 = .ok (.iload_n 1, 1) := dgX9_matches_1.2.2.2.2.2.2.2.2.2.2.1
theorem dX9_matches_42 : decode cX9_matches 42 = .ok (.aload_n 0, 1) := dgX9_matches_1.2.2.2.2.2.2.2.2.2.2.2.1
theorem dX9_matches_43 : decode cX9_matches 43 = .ok (.iload_n 3, 1) := dgX9_matches_1.2.2.2.2.2.2.2.2.2.2.2.2.1
theorem dX9_matches_44 : decode cX9_matches 44 = .ok (.iconst 1, 1) := dgX9_matches_1.2.2.2.2.2.2.2.2.2.2.2.2.2.1
theorem dX9_matches_45 : decode cX9_matches 45 = .ok (.aload_n 0, 1) := dgX9_matches_1.2.2.2.2.2.2.2.2.2.2.2.2.2.2.1
theorem dX9_matches_46 : decode cX9_matches 46 = .ok (.iload_n 3, 1) := dgX9_matches_1.2.2.2.2.2.2.2.2.2.2.2.2.2.2.2
theorem dgX9_matches_2 : decode cX9_matches 47 = .ok (.iconst 4, 1) ∧ decode cX9_matches 48 = .ok (.invokevirtual 96, 3) ∧ decode cX9_matches 51 = .ok (.invokevirtual 120, 3) ∧ decode cX9_matches 54 = .ok (.aload_n 0, 1) ∧ decode cX9_matches 55 = .ok (.iload 4, 2) ∧ decode cX9_matches 57 = .ok (.iconst 0, 1) ∧ decode cX9_matches 58 = .ok (.aload_n 0, 1) ∧ decode cX9_matches 59 = .ok (.iload 4, 2) ∧ decode cX9_matches 61 = .ok (.iconst 4, 1) ∧ decode cX9_matches 62 = .ok (.invokevirtual 96, 3) ∧ decode cX9_matches 65 = .ok (.invokevirtual 120, 3) ∧ decode cX9_matches 68 = .ok (.if_icmp .ne 7, 3) ∧ decode cX9_matches 71 = .ok (.iconst 1, 1) ∧ decode cX9_matches 72 = .ok (.goto 4, 3) ∧ decode cX9_matches 75 = .ok (.iconst 0, 1) ∧ decode cX9_matches 76 = .ok (.iadd, 1) := by decide +kernel
theorem dX9_matches_47 : decode cX9_matches 47 = .ok (.iconst 4, 1) := dgX9_matches_2.1
theorem dX9_matches_48 : decode cX9_matches 48 = .ok (.invokevirtual 96, 3) := dgX9_matches_2.2.1
theorem dX9_matches_51 : decode cX9_matches 51 = .ok (.invokevirtual 120, 3) := dgX9_matches_2.2.2.1
theorem dX9_matches_54 : decode cX9_matches 54 = .ok (.aload_n 0, 1) := dgX9_matches_2.2.2.2.1
theorem dX9_matches_55 : decode cX9_matches 55 = .ok (.iload 4, 2) := dgX9_matches_2.2.2.2.2.1
theorem dX9_matches_57 : decode cX9_matches 57 = .ok (.iconst 0, 1) := dgX9_matches_2.2.2.2.2.2.1
theorem dX9_matches_58 : decode cX9_matches 58 = .ok (.aload_n 0, 1) := dgX9_matches_2.2.2.2.2.2.2.1
theorem dX9_matches_59 : decode cX9_matches 59 = .ok (.iload 4, 2) := dgX9_matches_2.2.2.2.2.2.2.2.1
theorem dX9_matches_61 : decode cX9_matches 61 = .ok (.iconst 4, 1) := dgX9_matches_2.2.2.2.2.2.2.2.2.1
theorem dX9_matches_62 : decode cX9_matches 62 = .ok (.invokevirtual 96, 3) := dgX9_matches_2.2.2.2.2.2.2.2.2.2.1
theorem dX9_matches_65 : decode cX9_matches 65 = .ok (.invokevirtual 120, 3) := dgX9_matches_2.2.2.2.2.2.2.2.2.2.2.1
theorem dX9_matches_68 : decode cX9_matches 68 = .ok (.if_icmp .ne 7, 3) := dgX9_matches_2.2.2.2.2.2.2.2.2.2.2.2.1
theorem dX9_matches_71 : decode cX9_matches 71 = .ok (.iconst 1, 1) := dgX9_matches_2.2.2.2.2.2.2.2.2.2.2.2.2.1
theorem dX9_matches_72 : decode cX9_matches 72 = .ok (.goto 4, 3) := dgX9_matches_2.2.2.2.2.2.2.2.2.2.2.2.2.2.1
theorem dX9_matches_75 : decode cX9_matches 75 = .ok (.iconst 0, 1) := dgX9_matches_2.2.2.2.2.2.2.2.2.2.2.2.2.2.2.1
theorem dX9_matches_76 : decode cX9_matches 76 = .ok (.iadd, 1) := dgX9_matches_2.2.2.2.2.2.2.2.2.2.2.2.2.2.2.2
theorem dgX9_matches_3 : decode cX9_matches 77 = .ok (.istore_n 1, 1) ∧ decode cX9_matches 78 = .ok (.iinc 2 1, 3) ∧ decode cX9_matches 81 = .ok (.goto (-77), 3) ∧ decode cX9_matches 84 = .ok (.iload_n 1, 1) ∧ decode cX9_matches 85 = .ok (.ireturn, 1) := by decide +kernel
theorem dX9_matches_77 : decode cX9_matches 77 = .ok (.istore_n 1, 1) := dgX9_matches_3.1
theorem dX9_matches_78 : decode cX9_matches 78 = .ok (.iinc 2 1, 3) := dgX9_matches_3.2.1
theorem dX9_matches_81 : decode cX9_matches 81 = .ok (.goto (-77), 3) := dgX9_matches_3.2.2.1
theorem dX9_matches_84 : decode cX9_matches 84 = .ok (.iload_n 1, 1) := dgX9_matches_3.2.2.2.1
theorem dX9_matches_85 : decode cX9_matches 85 = .ok (.ireturn, 1) := dgX9_matches_3.2.2.2.2
abbrev pX9_matches : List Nat := [0, 4, 75, 76, 78, 84]
def bX9_matches_0 (cal : ab_F) : ab_K := o_push (.int 0) <| o_istore 1 <| o_push (.int 0) <| o_istore 2 <| o_goto 1
def bX9_matches_1 (cal : ab_F) : ab_K := o_iload 2 <| o_push (.int 11) <| o_cmp (fun x y => decide (y ≤ x)) 5 <| o_aload 0 <| o_iload 2 <| o_callV cal 149 1 8 <| o_istore 3 <| o_aload 0 <| o_iload 2 <| o_push (.int 1) <| o_bin (fun x y => x + y) <| o_callV cal 149 1 8 <| o_istore 4 <| o_iload 2 <| o_push (.int 3) <| o_div (fun x y => x - x / y * y) <| o_push (.int 2) <| o_cmp (fun x y => decide (y ≤ x)) 4 <| o_iload 3 <| o_if (fun x => decide (x < 0)) 4 <| o_iload 4 <| o_if (fun x => decide (x < 0)) 4 <| o_iload 1 <| o_aload 0 <| o_iload 3 <| o_push (.int 1) <| o_aload 0 <| o_iload 3 <| o_push (.int 4) <| o_callV cal 135 2 8 <| o_callV cal 142 3 8 <| o_aload 0 <| o_iload 4 <| o_push (.int 0) <| o_aload 0 <| o_iload 4 <| o_push (.int 4) <| o_callV cal 135 2 8 <| o_callV cal 142 3 8 <| o_cmp (fun x y => decide (¬ x = y)) 2 <| o_push (.int 1) <| o_goto 3
def bX9_matches_2 (cal : ab_F) : ab_K := o_push (.int 0) <| o_goto 3
def bX9_matches_3 (cal : ab_F) : ab_K := o_bin (fun x y => x + y) <| o_istore 1 <| o_goto 4
def bX9_matches_4 (cal : ab_F) : ab_K := o_iinc 2 1 <| o_goto 1
def bX9_matches_5 (cal : ab_F) : ab_K := o_iload 1 <| o_ret (some .int)
def bX9_matches (cal : ab_F) : List ab_K := [bX9_matches_0 cal, bX9_matches_1 cal, bX9_matches_2 cal, bX9_matches_3 cal, bX9_matches_4 cal, bX9_matches_5 cal]
set_option maxRecDepth 100000 in
theorem sX9_matches_0 {G : ab_G} {xs : List Int32} {d : Nat} {cal : ab_F} (hcs : ab_CS G (ab_Z G xs) ab_Mf cal d) : ab_Sd G (ab_Z G xs) (d + 1) (ab_mY mX9_matches pX9_matches) 0 (bX9_matches_0 cal) :=
  sn_iconst dX9_matches_0 rfl <| sn_istore_n dX9_matches_1 rfl (by decide) <| sn_iconst dX9_matches_2 rfl <| sn_istore_n dX9_matches_3 rfl (by decide) <| sn_next rfl
set_option maxRecDepth 100000 in
theorem sX9_matches_1 {G : ab_G} {xs : List Int32} {d : Nat} {cal : ab_F} (hcs : ab_CS G (ab_Z G xs) ab_Mf cal d) : ab_Sd G (ab_Z G xs) (d + 1) (ab_mY mX9_matches pX9_matches) 4 (bX9_matches_1 cal) :=
  sn_iload_n dX9_matches_4 rfl <| sn_bipush dX9_matches_5 rfl <| sn_cmp_ge (tg := 84) dX9_matches_7 rfl rfl <| sn_aload_n dX9_matches_10 rfl <| sn_iload_n dX9_matches_11 rfl <| sq_callV mt_149 hcs dX9_matches_12 rfl w_1191 w_1193 w_27 w_63 w_1194 hy_149 hm_149 <| sn_istore_n dX9_matches_15 rfl (by decide) <| sn_aload_n dX9_matches_16 rfl <| sn_iload_n dX9_matches_17 rfl <| sn_iconst dX9_matches_18 rfl <| sn_iadd dX9_matches_19 <| sq_callV mt_149 hcs dX9_matches_20 rfl w_1191 w_1193 w_27 w_63 w_1194 hy_149 hm_149 <| sn_istore dX9_matches_23 (by decide) <| sn_iload_n dX9_matches_25 rfl <| sn_iconst dX9_matches_26 rfl <| sn_irem dX9_matches_27 <| sn_iconst dX9_matches_28 rfl <| sn_cmp_ge (tg := 78) dX9_matches_29 rfl rfl <| sn_iload_n dX9_matches_32 rfl <| sn_if_lt (tg := 78) dX9_matches_33 rfl rfl <| sn_iload dX9_matches_36 <| sn_if_lt (tg := 78) dX9_matches_38 rfl rfl <| sn_iload_n dX9_matches_41 rfl <| sn_aload_n dX9_matches_42 rfl <| sn_iload_n dX9_matches_43 rfl <| sn_iconst dX9_matches_44 rfl <| sn_aload_n dX9_matches_45 rfl <| sn_iload_n dX9_matches_46 rfl <| sn_iconst dX9_matches_47 rfl <| sq_callV mt_135 hcs dX9_matches_48 rfl w_1123 w_1125 w_18 w_63 w_1126 hy_135 hm_135 <| sq_callV mt_142 hcs dX9_matches_51 rfl w_1146 w_1148 w_22 w_63 w_1149 hy_142 hm_142 <| sn_aload_n dX9_matches_54 rfl <| sn_iload dX9_matches_55 <| sn_iconst dX9_matches_57 rfl <| sn_aload_n dX9_matches_58 rfl <| sn_iload dX9_matches_59 <| sn_iconst dX9_matches_61 rfl <| sq_callV mt_135 hcs dX9_matches_62 rfl w_1123 w_1125 w_18 w_63 w_1126 hy_135 hm_135 <| sq_callV mt_142 hcs dX9_matches_65 rfl w_1146 w_1148 w_22 w_63 w_1149 hy_142 hm_142 <| sn_cmp_ne (tg := 75) dX9_matches_68 rfl rfl <| sn_iconst dX9_matches_71 rfl <| sn_goto (tg := 76) dX9_matches_72 rfl rfl
set_option maxRecDepth 100000 in
theorem sX9_matches_2 {G : ab_G} {xs : List Int32} {d : Nat} {cal : ab_F} (hcs : ab_CS G (ab_Z G xs) ab_Mf cal d) : ab_Sd G (ab_Z G xs) (d + 1) (ab_mY mX9_matches pX9_matches) 75 (bX9_matches_2 cal) :=
  sn_iconst dX9_matches_75 rfl <| sn_next rfl
set_option maxRecDepth 100000 in
theorem sX9_matches_3 {G : ab_G} {xs : List Int32} {d : Nat} {cal : ab_F} (hcs : ab_CS G (ab_Z G xs) ab_Mf cal d) : ab_Sd G (ab_Z G xs) (d + 1) (ab_mY mX9_matches pX9_matches) 76 (bX9_matches_3 cal) :=
  sn_iadd dX9_matches_76 <| sn_istore_n dX9_matches_77 rfl (by decide) <| sn_next rfl
set_option maxRecDepth 100000 in
theorem sX9_matches_4 {G : ab_G} {xs : List Int32} {d : Nat} {cal : ab_F} (hcs : ab_CS G (ab_Z G xs) ab_Mf cal d) : ab_Sd G (ab_Z G xs) (d + 1) (ab_mY mX9_matches pX9_matches) 78 (bX9_matches_4 cal) :=
  sn_iinc dX9_matches_78 rfl (by decide) <| sn_goto (tg := 4) dX9_matches_81 rfl rfl
set_option maxRecDepth 100000 in
theorem sX9_matches_5 {G : ab_G} {xs : List Int32} {d : Nat} {cal : ab_F} (hcs : ab_CS G (ab_Z G xs) ab_Mf cal d) : ab_Sd G (ab_Z G xs) (d + 1) (ab_mY mX9_matches pX9_matches) 84 (bX9_matches_5 cal) :=
  sn_iload_n dX9_matches_84 rfl <| sn_ret dX9_matches_85 ab_ri_int
theorem sX9_matches {G : ab_G} {xs : List Int32} {d : Nat} {cal : ab_F} (hcs : ab_CS G (ab_Z G xs) ab_Mf cal d) : ab_BS G (ab_Z G xs) (d + 1) (ab_mY mX9_matches pX9_matches) pX9_matches (bX9_matches cal) := ⟨sX9_matches_0 hcs, sX9_matches_1 hcs, sX9_matches_2 hcs, sX9_matches_3 hcs, sX9_matches_4 hcs, sX9_matches_5 hcs, trivial⟩
theorem dgX9_king_0 : decode cX9_king 0 = .ok (.iload_n 1, 1) ∧ decode cX9_king 1 = .ok (.tableswitch 82 0 3 #[31, 36, 41, 46], 31) ∧ decode cX9_king 32 = .ok (.aload_n 0, 1) ∧ decode cX9_king 33 = .ok (.invokevirtual 165, 3) ∧ decode cX9_king 36 = .ok (.ireturn, 1) ∧ decode cX9_king 37 = .ok (.aload_n 0, 1) ∧ decode cX9_king 38 = .ok (.invokevirtual 168, 3) ∧ decode cX9_king 41 = .ok (.ireturn, 1) ∧ decode cX9_king 42 = .ok (.aload_n 0, 1) ∧ decode cX9_king 43 = .ok (.invokevirtual 159, 3) ∧ decode cX9_king 46 = .ok (.ireturn, 1) ∧ decode cX9_king 47 = .ok (.iconst 0, 1) ∧ decode cX9_king 48 = .ok (.istore_n 2, 1) ∧ decode cX9_king 49 = .ok (.iconst 0, 1) ∧ decode cX9_king 50 = .ok (.istore_n 3, 1) ∧ decode cX9_king 51 = .ok (.iload_n 3, 1) := by decide +kernel
theorem dX9_king_0 : decode cX9_king 0 = .ok (.iload_n 1, 1) := dgX9_king_0.1
theorem dX9_king_1 : decode cX9_king 1 = .ok (.tableswitch 82 0 3 #[31, 36, 41, 46], 31) := dgX9_king_0.2.1
theorem dX9_king_32 : decode cX9_king 32 = .ok (.aload_n 0, 1) := dgX9_king_0.2.2.1
theorem dX9_king_33 : decode cX9_king 33 = .ok (.invokevirtual 165, 3) := dgX9_king_0.2.2.2.1
theorem dX9_king_36 : decode cX9_king 36 = .ok (.ireturn, 1) := dgX9_king_0.2.2.2.2.1
theorem dX9_king_37 : decode cX9_king 37 = .ok (.aload_n 0, 1) := dgX9_king_0.2.2.2.2.2.1
theorem dX9_king_38 : decode cX9_king 38 = .ok (.invokevirtual 168, 3) := dgX9_king_0.2.2.2.2.2.2.1
theorem dX9_king_41 : decode cX9_king 41 = .ok (.ireturn, 1) := dgX9_king_0.2.2.2.2.2.2.2.1
theorem dX9_king_42 : decode cX9_king 42 = .ok (.aload_n 0, 1) := dgX9_king_0.2.2.2.2.2.2.2.2.1
theorem dX9_king_43 : decode cX9_king 43 = .ok (.invokevirtual 159, 3) := dgX9_king_0.2.2.2.2.2.2.2.2.2.1
theorem dX9_king_46 : decode cX9_king 46 = .ok (.ireturn, 1) := dgX9_king_0.2.2.2.2.2.2.2.2.2.2.1
theorem dX9_king_47 : decode cX9_king 47 = .ok (.iconst 0, 1) := dgX9_king_0.2.2.2.2.2.2.2.2.2.2.2.1
theorem dX9_king_48 : decode cX9_king 48 = .ok (.istore_n 2, 1) := dgX9_king_0.2.2.2.2.2.2.2.2.2.2.2.2.1
theorem dX9_king_49 : decode cX9_king 49 = .ok (.iconst 0, 1) := dgX9_king_0.2.2.2.2.2.2.2.2.2.2.2.2.2.1
theorem dX9_king_50 : decode cX9_king 50 = .ok (.istore_n 3, 1) := dgX9_king_0.2.2.2.2.2.2.2.2.2.2.2.2.2.2.1
theorem dX9_king_51 : decode cX9_king 51 = .ok (.iload_n 3, 1) := dgX9_king_0.2.2.2.2.2.2.2.2.2.2.2.2.2.2.2
theorem dgX9_king_1 : decode cX9_king 52 = .ok (.bipush 12, 2) ∧ decode cX9_king 54 = .ok (.if_icmp .ge 27, 3) ∧ decode cX9_king 57 = .ok (.iload_n 2, 1) ∧ decode cX9_king 58 = .ok (.aload_n 0, 1) ∧ decode cX9_king 59 = .ok (.iload_n 3, 1) ∧ decode cX9_king 60 = .ok (.invokevirtual 143, 3) ∧ decode cX9_king 63 = .ok (.ifCond .ge 7, 3) ∧ decode cX9_king 66 = .ok (.iconst 0, 1) ∧ decode cX9_king 67 = .ok (.goto 6, 3) ∧ decode cX9_king 70 = .ok (.iconst 1, 1) ∧ decode cX9_king 71 = .ok (.iload_n 3, 1) ∧ decode cX9_king 72 = .ok (.ishl, 1) ∧ decode cX9_king 73 = .ok (.ior, 1) ∧ decode cX9_king 74 = .ok (.istore_n 2, 1) ∧ decode cX9_king 75 = .ok (.iinc 3 1, 3) ∧ decode cX9_king 78 = .ok (.goto (-27), 3) := by decide +kernel
theorem dX9_king_52 : decode cX9_king 52 = .ok (.bipush 12, 2) := dgX9_king_1.1
theorem dX9_king_54 : decode cX9_king 54 = .ok (.if_icmp .ge 27, 3) := dgX9_king_1.2.1
theorem dX9_king_57 : decode cX9_king 57 = .ok (.iload_n 2, 1) := dgX9_king_1.2.2.1
theorem dX9_king_58 : decode cX9_king 58 = .ok (.aload_n 0, 1) := dgX9_king_1.2.2.2.1
theorem dX9_king_59 : decode cX9_king 59 = .ok (.iload_n 3, 1) := dgX9_king_1.2.2.2.2.1
theorem dX9_king_60 : decode cX9_king 60 = .ok (.invokevirtual 143, 3) := dgX9_king_1.2.2.2.2.2.1
theorem dX9_king_63 : decode cX9_king 63 = .ok (.ifCond .ge 7, 3) := dgX9_king_1.2.2.2.2.2.2.1
theorem dX9_king_66 : decode cX9_king 66 = .ok (.iconst 0, 1) := dgX9_king_1.2.2.2.2.2.2.2.1
theorem dX9_king_67 : decode cX9_king 67 = .ok (.goto 6, 3) := dgX9_king_1.2.2.2.2.2.2.2.2.1
theorem dX9_king_70 : decode cX9_king 70 = .ok (.iconst 1, 1) := dgX9_king_1.2.2.2.2.2.2.2.2.2.1
theorem dX9_king_71 : decode cX9_king 71 = .ok (.iload_n 3, 1) := dgX9_king_1.2.2.2.2.2.2.2.2.2.2.1
theorem dX9_king_72 : decode cX9_king 72 = .ok (.ishl, 1) := dgX9_king_1.2.2.2.2.2.2.2.2.2.2.2.1
theorem dX9_king_73 : decode cX9_king 73 = .ok (.ior, 1) := dgX9_king_1.2.2.2.2.2.2.2.2.2.2.2.2.1
theorem dX9_king_74 : decode cX9_king 74 = .ok (.istore_n 2, 1) := dgX9_king_1.2.2.2.2.2.2.2.2.2.2.2.2.2.1
theorem dX9_king_75 : decode cX9_king 75 = .ok (.iinc 3 1, 3) := dgX9_king_1.2.2.2.2.2.2.2.2.2.2.2.2.2.2.1
theorem dX9_king_78 : decode cX9_king 78 = .ok (.goto (-27), 3) := dgX9_king_1.2.2.2.2.2.2.2.2.2.2.2.2.2.2.2
theorem dgX9_king_2 : decode cX9_king 81 = .ok (.iload_n 2, 1) ∧ decode cX9_king 82 = .ok (.ireturn, 1) ∧ decode cX9_king 83 = .ok (.ldc 90, 2) ∧ decode cX9_king 85 = .ok (.ireturn, 1) := by decide +kernel
theorem dX9_king_81 : decode cX9_king 81 = .ok (.iload_n 2, 1) := dgX9_king_2.1
theorem dX9_king_82 : decode cX9_king 82 = .ok (.ireturn, 1) := dgX9_king_2.2.1
theorem dX9_king_83 : decode cX9_king 83 = .ok (.ldc 90, 2) := dgX9_king_2.2.2.1
theorem dX9_king_85 : decode cX9_king 85 = .ok (.ireturn, 1) := dgX9_king_2.2.2.2
abbrev pX9_king : List Nat := [0, 32, 37, 42, 47, 51, 70, 73, 81, 83]
def bX9_king_0 (cal : ab_F) : ab_K := o_iload 1 <| o_sw (ab_tsw 0 [1, 2, 3, 4] 9)
def bX9_king_1 (cal : ab_F) : ab_K := o_aload 0 <| o_callV cal 162 0 8 <| o_ret (some .int)
def bX9_king_2 (cal : ab_F) : ab_K := o_aload 0 <| o_callV cal 163 0 8 <| o_ret (some .int)
def bX9_king_3 (cal : ab_F) : ab_K := o_aload 0 <| o_callV cal 157 0 8 <| o_ret (some .int)
def bX9_king_4 (cal : ab_F) : ab_K := o_push (.int 0) <| o_istore 2 <| o_push (.int 0) <| o_istore 3 <| o_goto 5
def bX9_king_5 (cal : ab_F) : ab_K := o_iload 3 <| o_push (.int 12) <| o_cmp (fun x y => decide (y ≤ x)) 8 <| o_iload 2 <| o_aload 0 <| o_iload 3 <| o_callV cal 149 1 8 <| o_if (fun x => decide (0 ≤ x)) 6 <| o_push (.int 0) <| o_goto 7
def bX9_king_6 (cal : ab_F) : ab_K := o_push (.int 1) <| o_iload 3 <| o_bin (fun x y => x <<< (y &&& 31)) <| o_goto 7
def bX9_king_7 (cal : ab_F) : ab_K := o_bin (fun x y => x ||| y) <| o_istore 2 <| o_iinc 3 1 <| o_goto 5
def bX9_king_8 (cal : ab_F) : ab_K := o_iload 2 <| o_ret (some .int)
def bX9_king_9 (cal : ab_F) : ab_K := o_push (.int (-1000000001)) <| o_ret (some .int)
def bX9_king (cal : ab_F) : List ab_K := [bX9_king_0 cal, bX9_king_1 cal, bX9_king_2 cal, bX9_king_3 cal, bX9_king_4 cal, bX9_king_5 cal, bX9_king_6 cal, bX9_king_7 cal, bX9_king_8 cal, bX9_king_9 cal]
set_option maxRecDepth 100000 in
theorem sX9_king_0 {G : ab_G} {xs : List Int32} {d : Nat} {cal : ab_F} (hcs : ab_CS G (ab_Z G xs) ab_Mf cal d) : ab_Sd G (ab_Z G xs) (d + 1) (ab_mY mX9_king pX9_king) 0 (bX9_king_0 cal) :=
  sn_iload_n dX9_king_0 rfl <| sn_tsw dX9_king_1 rfl rfl rfl
set_option maxRecDepth 100000 in
theorem sX9_king_1 {G : ab_G} {xs : List Int32} {d : Nat} {cal : ab_F} (hcs : ab_CS G (ab_Z G xs) ab_Mf cal d) : ab_Sd G (ab_Z G xs) (d + 1) (ab_mY mX9_king pX9_king) 32 (bX9_king_1 cal) :=
  sn_aload_n dX9_king_32 rfl <| sq_callV mt_162 hcs dX9_king_33 rfl w_1245 w_1247 w_33 w_63 w_1248 hy_162 hm_162 <| sn_ret dX9_king_36 ab_ri_int
set_option maxRecDepth 100000 in
theorem sX9_king_2 {G : ab_G} {xs : List Int32} {d : Nat} {cal : ab_F} (hcs : ab_CS G (ab_Z G xs) ab_Mf cal d) : ab_Sd G (ab_Z G xs) (d + 1) (ab_mY mX9_king pX9_king) 37 (bX9_king_2 cal) :=
  sn_aload_n dX9_king_37 rfl <| sq_callV mt_163 hcs dX9_king_38 rfl w_1249 w_1251 w_34 w_63 w_1252 hy_163 hm_163 <| sn_ret dX9_king_41 ab_ri_int
set_option maxRecDepth 100000 in
theorem sX9_king_3 {G : ab_G} {xs : List Int32} {d : Nat} {cal : ab_F} (hcs : ab_CS G (ab_Z G xs) ab_Mf cal d) : ab_Sd G (ab_Z G xs) (d + 1) (ab_mY mX9_king pX9_king) 42 (bX9_king_3 cal) :=
  sn_aload_n dX9_king_42 rfl <| sq_callV mt_157 hcs dX9_king_43 rfl w_1225 w_1227 w_29 w_63 w_1228 hy_157 hm_157 <| sn_ret dX9_king_46 ab_ri_int
set_option maxRecDepth 100000 in
theorem sX9_king_4 {G : ab_G} {xs : List Int32} {d : Nat} {cal : ab_F} (hcs : ab_CS G (ab_Z G xs) ab_Mf cal d) : ab_Sd G (ab_Z G xs) (d + 1) (ab_mY mX9_king pX9_king) 47 (bX9_king_4 cal) :=
  sn_iconst dX9_king_47 rfl <| sn_istore_n dX9_king_48 rfl (by decide) <| sn_iconst dX9_king_49 rfl <| sn_istore_n dX9_king_50 rfl (by decide) <| sn_next rfl
set_option maxRecDepth 100000 in
theorem sX9_king_5 {G : ab_G} {xs : List Int32} {d : Nat} {cal : ab_F} (hcs : ab_CS G (ab_Z G xs) ab_Mf cal d) : ab_Sd G (ab_Z G xs) (d + 1) (ab_mY mX9_king pX9_king) 51 (bX9_king_5 cal) :=
  sn_iload_n dX9_king_51 rfl <| sn_bipush dX9_king_52 rfl <| sn_cmp_ge (tg := 81) dX9_king_54 rfl rfl <| sn_iload_n dX9_king_57 rfl <| sn_aload_n dX9_king_58 rfl <| sn_iload_n dX9_king_59 rfl <| sq_callV mt_149 hcs dX9_king_60 rfl w_1191 w_1193 w_27 w_63 w_1194 hy_149 hm_149 <| sn_if_ge (tg := 70) dX9_king_63 rfl rfl <| sn_iconst dX9_king_66 rfl <| sn_goto (tg := 73) dX9_king_67 rfl rfl
set_option maxRecDepth 100000 in
theorem sX9_king_6 {G : ab_G} {xs : List Int32} {d : Nat} {cal : ab_F} (hcs : ab_CS G (ab_Z G xs) ab_Mf cal d) : ab_Sd G (ab_Z G xs) (d + 1) (ab_mY mX9_king pX9_king) 70 (bX9_king_6 cal) :=
  sn_iconst dX9_king_70 rfl <| sn_iload_n dX9_king_71 rfl <| sn_ishl dX9_king_72 <| sn_next rfl
set_option maxRecDepth 100000 in
theorem sX9_king_7 {G : ab_G} {xs : List Int32} {d : Nat} {cal : ab_F} (hcs : ab_CS G (ab_Z G xs) ab_Mf cal d) : ab_Sd G (ab_Z G xs) (d + 1) (ab_mY mX9_king pX9_king) 73 (bX9_king_7 cal) :=
  sn_ior dX9_king_73 <| sn_istore_n dX9_king_74 rfl (by decide) <| sn_iinc dX9_king_75 rfl (by decide) <| sn_goto (tg := 51) dX9_king_78 rfl rfl
set_option maxRecDepth 100000 in
theorem sX9_king_8 {G : ab_G} {xs : List Int32} {d : Nat} {cal : ab_F} (hcs : ab_CS G (ab_Z G xs) ab_Mf cal d) : ab_Sd G (ab_Z G xs) (d + 1) (ab_mY mX9_king pX9_king) 81 (bX9_king_8 cal) :=
  sn_iload_n dX9_king_81 rfl <| sn_ret dX9_king_82 ab_ri_int
set_option maxRecDepth 100000 in
theorem sX9_king_9 {G : ab_G} {xs : List Int32} {d : Nat} {cal : ab_F} (hcs : ab_CS G (ab_Z G xs) ab_Mf cal d) : ab_Sd G (ab_Z G xs) (d + 1) (ab_mY mX9_king pX9_king) 83 (bX9_king_9 cal) :=
  sn_ldc dX9_king_83 w_1109 <| sn_ret dX9_king_85 ab_ri_int
theorem sX9_king {G : ab_G} {xs : List Int32} {d : Nat} {cal : ab_F} (hcs : ab_CS G (ab_Z G xs) ab_Mf cal d) : ab_BS G (ab_Z G xs) (d + 1) (ab_mY mX9_king pX9_king) pX9_king (bX9_king cal) := ⟨sX9_king_0 hcs, sX9_king_1 hcs, sX9_king_2 hcs, sX9_king_3 hcs, sX9_king_4 hcs, sX9_king_5 hcs, sX9_king_6 hcs, sX9_king_7 hcs, sX9_king_8 hcs, sX9_king_9 hcs, trivial⟩
theorem dgX9_at_0 : decode cX9_at 0 = .ok (.iload_n 1, 1) ∧ decode cX9_at 1 = .ok (.invokestatic 129, 3) ∧ decode cX9_at 4 = .ok (.ifCond .eq 14, 3) ∧ decode cX9_at 7 = .ok (.aload_n 0, 1) ∧ decode cX9_at 8 = .ok (.iload_n 1, 1) ∧ decode cX9_at 9 = .ok (.invokevirtual 143, 3) ∧ decode cX9_at 12 = .ok (.invokestatic 171, 3) ∧ decode cX9_at 15 = .ok (.goto 5, 3) ∧ decode cX9_at 18 = .ok (.ldc 90, 2) ∧ decode cX9_at 20 = .ok (.ireturn, 1) := by decide +kernel
theorem dX9_at_0 : decode cX9_at 0 = .ok (.iload_n 1, 1) := dgX9_at_0.1
theorem dX9_at_1 : decode cX9_at 1 = .ok (.invokestatic 129, 3) := dgX9_at_0.2.1
theorem dX9_at_4 : decode cX9_at 4 = .ok (.ifCond .eq 14, 3) := dgX9_at_0.2.2.1
theorem dX9_at_7 : decode cX9_at 7 = .ok (.aload_n 0, 1) := dgX9_at_0.2.2.2.1
theorem dX9_at_8 : decode cX9_at 8 = .ok (.iload_n 1, 1) := dgX9_at_0.2.2.2.2.1
theorem dX9_at_9 : decode cX9_at 9 = .ok (.invokevirtual 143, 3) := dgX9_at_0.2.2.2.2.2.1
theorem dX9_at_12 : decode cX9_at 12 = .ok (.invokestatic 171, 3) := dgX9_at_0.2.2.2.2.2.2.1
theorem dX9_at_15 : decode cX9_at 15 = .ok (.goto 5, 3) := dgX9_at_0.2.2.2.2.2.2.2.1
theorem dX9_at_18 : decode cX9_at 18 = .ok (.ldc 90, 2) := dgX9_at_0.2.2.2.2.2.2.2.2.1
theorem dX9_at_20 : decode cX9_at 20 = .ok (.ireturn, 1) := dgX9_at_0.2.2.2.2.2.2.2.2.2
abbrev pX9_at : List Nat := [0, 18, 20]
def bX9_at_0 (cal : ab_F) : ab_K := o_iload 1 <| o_callS cal 134 1 <| o_if (fun x => decide (x = 0)) 1 <| o_aload 0 <| o_iload 1 <| o_callV cal 149 1 8 <| o_callS cal 132 1 <| o_goto 2
def bX9_at_1 (cal : ab_F) : ab_K := o_push (.int (-1000000001)) <| o_goto 2
def bX9_at_2 (cal : ab_F) : ab_K := o_ret (some .int)
def bX9_at (cal : ab_F) : List ab_K := [bX9_at_0 cal, bX9_at_1 cal, bX9_at_2 cal]
set_option maxRecDepth 100000 in
theorem sX9_at_0 {G : ab_G} {xs : List Int32} {d : Nat} {cal : ab_F} (hcs : ab_CS G (ab_Z G xs) ab_Mf cal d) : ab_Sd G (ab_Z G xs) (d + 1) (ab_mY mX9_at pX9_at) 0 (bX9_at_0 cal) :=
  sn_iload_n dX9_at_0 rfl <| sq_callS mt_134 hcs dX9_at_1 w_1139 w_1140 w_63 w_1141 hy_134 hm_134 <| sn_if_eq (tg := 18) dX9_at_4 rfl rfl <| sn_aload_n dX9_at_7 rfl <| sn_iload_n dX9_at_8 rfl <| sq_callV mt_149 hcs dX9_at_9 rfl w_1191 w_1193 w_27 w_63 w_1194 hy_149 hm_149 <| sq_callS mt_132 hcs dX9_at_12 w_1257 w_1258 w_63 w_1259 hy_132 hm_132 <| sn_goto (tg := 20) dX9_at_15 rfl rfl
set_option maxRecDepth 100000 in
theorem sX9_at_1 {G : ab_G} {xs : List Int32} {d : Nat} {cal : ab_F} (hcs : ab_CS G (ab_Z G xs) ab_Mf cal d) : ab_Sd G (ab_Z G xs) (d + 1) (ab_mY mX9_at pX9_at) 18 (bX9_at_1 cal) :=
  sn_ldc dX9_at_18 w_1109 <| sn_next rfl
set_option maxRecDepth 100000 in
theorem sX9_at_2 {G : ab_G} {xs : List Int32} {d : Nat} {cal : ab_F} (hcs : ab_CS G (ab_Z G xs) ab_Mf cal d) : ab_Sd G (ab_Z G xs) (d + 1) (ab_mY mX9_at pX9_at) 20 (bX9_at_2 cal) :=
  sn_ret dX9_at_20 ab_ri_int
theorem sX9_at {G : ab_G} {xs : List Int32} {d : Nat} {cal : ab_F} (hcs : ab_CS G (ab_Z G xs) ab_Mf cal d) : ab_BS G (ab_Z G xs) (d + 1) (ab_mY mX9_at pX9_at) pX9_at (bX9_at cal) := ⟨sX9_at_0 hcs, sX9_at_1 hcs, sX9_at_2 hcs, trivial⟩
theorem dgX9_leastAt_0 : decode cX9_leastAt 0 = .ok (.aload_n 0, 1) ∧ decode cX9_leastAt 1 = .ok (.iload_n 1, 1) ∧ decode cX9_leastAt 2 = .ok (.iload_n 2, 1) ∧ decode cX9_leastAt 3 = .ok (.iconst 0, 1) ∧ decode cX9_leastAt 4 = .ok (.invokevirtual 132, 3) ∧ decode cX9_leastAt 7 = .ok (.istore_n 3, 1) ∧ decode cX9_leastAt 8 = .ok (.aload_n 0, 1) ∧ decode cX9_leastAt 9 = .ok (.iload_n 1, 1) ∧ decode cX9_leastAt 10 = .ok (.iload_n 2, 1) ∧ decode cX9_leastAt 11 = .ok (.iconst 1, 1) ∧ decode cX9_leastAt 12 = .ok (.invokevirtual 132, 3) ∧ decode cX9_leastAt 15 = .ok (.istore 4, 2) ∧ decode cX9_leastAt 17 = .ok (.iload_n 3, 1) ∧ decode cX9_leastAt 18 = .ok (.iload 4, 2) ∧ decode cX9_leastAt 20 = .ok (.if_icmp .ge 7, 3) ∧ decode cX9_leastAt 23 = .ok (.iload_n 3, 1) := by decide +kernel
theorem dX9_leastAt_0 : decode cX9_leastAt 0 = .ok (.aload_n 0, 1) := dgX9_leastAt_0.1
theorem dX9_leastAt_1 : decode cX9_leastAt 1 = .ok (.iload_n 1, 1) := dgX9_leastAt_0.2.1
theorem dX9_leastAt_2 : decode cX9_leastAt 2 = .ok (.iload_n 2, 1) := dgX9_leastAt_0.2.2.1
theorem dX9_leastAt_3 : decode cX9_leastAt 3 = .ok (.iconst 0, 1) := dgX9_leastAt_0.2.2.2.1
theorem dX9_leastAt_4 : decode cX9_leastAt 4 = .ok (.invokevirtual 132, 3) := dgX9_leastAt_0.2.2.2.2.1
theorem dX9_leastAt_7 : decode cX9_leastAt 7 = .ok (.istore_n 3, 1) := dgX9_leastAt_0.2.2.2.2.2.1
theorem dX9_leastAt_8 : decode cX9_leastAt 8 = .ok (.aload_n 0, 1) := dgX9_leastAt_0.2.2.2.2.2.2.1
theorem dX9_leastAt_9 : decode cX9_leastAt 9 = .ok (.iload_n 1, 1) := dgX9_leastAt_0.2.2.2.2.2.2.2.1
theorem dX9_leastAt_10 : decode cX9_leastAt 10 = .ok (.iload_n 2, 1) := dgX9_leastAt_0.2.2.2.2.2.2.2.2.1
theorem dX9_leastAt_11 : decode cX9_leastAt 11 = .ok (.iconst 1, 1) := dgX9_leastAt_0.2.2.2.2.2.2.2.2.2.1
theorem dX9_leastAt_12 : decode cX9_leastAt 12 = .ok (.invokevirtual 132, 3) := dgX9_leastAt_0.2.2.2.2.2.2.2.2.2.2.1
theorem dX9_leastAt_15 : decode cX9_leastAt 15 = .ok (.istore 4, 2) := dgX9_leastAt_0.2.2.2.2.2.2.2.2.2.2.2.1
theorem dX9_leastAt_17 : decode cX9_leastAt 17 = .ok (.iload_n 3, 1) := dgX9_leastAt_0.2.2.2.2.2.2.2.2.2.2.2.2.1
theorem dX9_leastAt_18 : decode cX9_leastAt 18 = .ok (.iload 4, 2) := dgX9_leastAt_0.2.2.2.2.2.2.2.2.2.2.2.2.2.1
theorem dX9_leastAt_20 : decode cX9_leastAt 20 = .ok (.if_icmp .ge 7, 3) := dgX9_leastAt_0.2.2.2.2.2.2.2.2.2.2.2.2.2.2.1
theorem dX9_leastAt_23 : decode cX9_leastAt 23 = .ok (.iload_n 3, 1) := dgX9_leastAt_0.2.2.2.2.2.2.2.2.2.2.2.2.2.2.2
theorem dgX9_leastAt_1 : decode cX9_leastAt 24 = .ok (.goto 5, 3) ∧ decode cX9_leastAt 27 = .ok (.iload 4, 2) ∧ decode cX9_leastAt 29 = .ok (.ireturn, 1) := by decide +kernel
theorem dX9_leastAt_24 : decode cX9_leastAt 24 = .ok (.goto 5, 3) := dgX9_leastAt_1.1
theorem dX9_leastAt_27 : decode cX9_leastAt 27 = .ok (.iload 4, 2) := dgX9_leastAt_1.2.1
theorem dX9_leastAt_29 : decode cX9_leastAt 29 = .ok (.ireturn, 1) := dgX9_leastAt_1.2.2
abbrev pX9_leastAt : List Nat := [0, 27, 29]
def bX9_leastAt_0 (cal : ab_F) : ab_K := o_aload 0 <| o_iload 1 <| o_iload 2 <| o_push (.int 0) <| o_callV cal 144 3 8 <| o_istore 3 <| o_aload 0 <| o_iload 1 <| o_iload 2 <| o_push (.int 1) <| o_callV cal 144 3 8 <| o_istore 4 <| o_iload 3 <| o_iload 4 <| o_cmp (fun x y => decide (y ≤ x)) 1 <| o_iload 3 <| o_goto 2
def bX9_leastAt_1 (cal : ab_F) : ab_K := o_iload 4 <| o_goto 2
def bX9_leastAt_2 (cal : ab_F) : ab_K := o_ret (some .int)
def bX9_leastAt (cal : ab_F) : List ab_K := [bX9_leastAt_0 cal, bX9_leastAt_1 cal, bX9_leastAt_2 cal]
set_option maxRecDepth 100000 in
theorem sX9_leastAt_0 {G : ab_G} {xs : List Int32} {d : Nat} {cal : ab_F} (hcs : ab_CS G (ab_Z G xs) ab_Mf cal d) : ab_Sd G (ab_Z G xs) (d + 1) (ab_mY mX9_leastAt pX9_leastAt) 0 (bX9_leastAt_0 cal) :=
  sn_aload_n dX9_leastAt_0 rfl <| sn_iload_n dX9_leastAt_1 rfl <| sn_iload_n dX9_leastAt_2 rfl <| sn_iconst dX9_leastAt_3 rfl <| sq_callV mt_144 hcs dX9_leastAt_4 rfl w_1142 w_1144 w_21 w_63 w_1145 hy_144 hm_144 <| sn_istore_n dX9_leastAt_7 rfl (by decide) <| sn_aload_n dX9_leastAt_8 rfl <| sn_iload_n dX9_leastAt_9 rfl <| sn_iload_n dX9_leastAt_10 rfl <| sn_iconst dX9_leastAt_11 rfl <| sq_callV mt_144 hcs dX9_leastAt_12 rfl w_1142 w_1144 w_21 w_63 w_1145 hy_144 hm_144 <| sn_istore dX9_leastAt_15 (by decide) <| sn_iload_n dX9_leastAt_17 rfl <| sn_iload dX9_leastAt_18 <| sn_cmp_ge (tg := 27) dX9_leastAt_20 rfl rfl <| sn_iload_n dX9_leastAt_23 rfl <| sn_goto (tg := 29) dX9_leastAt_24 rfl rfl
set_option maxRecDepth 100000 in
theorem sX9_leastAt_1 {G : ab_G} {xs : List Int32} {d : Nat} {cal : ab_F} (hcs : ab_CS G (ab_Z G xs) ab_Mf cal d) : ab_Sd G (ab_Z G xs) (d + 1) (ab_mY mX9_leastAt pX9_leastAt) 27 (bX9_leastAt_1 cal) :=
  sn_iload dX9_leastAt_27 <| sn_next rfl
set_option maxRecDepth 100000 in
theorem sX9_leastAt_2 {G : ab_G} {xs : List Int32} {d : Nat} {cal : ab_F} (hcs : ab_CS G (ab_Z G xs) ab_Mf cal d) : ab_Sd G (ab_Z G xs) (d + 1) (ab_mY mX9_leastAt pX9_leastAt) 29 (bX9_leastAt_2 cal) :=
  sn_ret dX9_leastAt_29 ab_ri_int
theorem sX9_leastAt {G : ab_G} {xs : List Int32} {d : Nat} {cal : ab_F} (hcs : ab_CS G (ab_Z G xs) ab_Mf cal d) : ab_BS G (ab_Z G xs) (d + 1) (ab_mY mX9_leastAt pX9_leastAt) pX9_leastAt (bX9_leastAt cal) := ⟨sX9_leastAt_0 hcs, sX9_leastAt_1 hcs, sX9_leastAt_2 hcs, trivial⟩
theorem dgX9_bits_0 : decode cX9_bits 0 = .ok (.iconst 0, 1) ∧ decode cX9_bits 1 = .ok (.istore_n 1, 1) ∧ decode cX9_bits 2 = .ok (.iconst 0, 1) ∧ decode cX9_bits 3 = .ok (.istore_n 2, 1) ∧ decode cX9_bits 4 = .ok (.iload_n 2, 1) ∧ decode cX9_bits 5 = .ok (.bipush 12, 2) ∧ decode cX9_bits 7 = .ok (.if_icmp .ge 17, 3) ∧ decode cX9_bits 10 = .ok (.iload_n 1, 1) ∧ decode cX9_bits 11 = .ok (.iload_n 0, 1) ∧ decode cX9_bits 12 = .ok (.iload_n 2, 1) ∧ decode cX9_bits 13 = .ok (.ishr, 1) ∧ decode cX9_bits 14 = .ok (.iconst 1, 1) ∧ decode cX9_bits 15 = .ok (.iand, 1) ∧ decode cX9_bits 16 = .ok (.iadd, 1) ∧ decode cX9_bits 17 = .ok (.istore_n 1, 1) ∧ decode cX9_bits 18 = .ok (.iinc 2 1, 3) := by decide +kernel
theorem dX9_bits_0 : decode cX9_bits 0 = .ok (.iconst 0, 1) := dgX9_bits_0.1
theorem dX9_bits_1 : decode cX9_bits 1 = .ok (.istore_n 1, 1) := dgX9_bits_0.2.1
theorem dX9_bits_2 : decode cX9_bits 2 = .ok (.iconst 0, 1) := dgX9_bits_0.2.2.1
theorem dX9_bits_3 : decode cX9_bits 3 = .ok (.istore_n 2, 1) := dgX9_bits_0.2.2.2.1
theorem dX9_bits_4 : decode cX9_bits 4 = .ok (.iload_n 2, 1) := dgX9_bits_0.2.2.2.2.1
theorem dX9_bits_5 : decode cX9_bits 5 = .ok (.bipush 12, 2) := dgX9_bits_0.2.2.2.2.2.1
theorem dX9_bits_7 : decode cX9_bits 7 = .ok (.if_icmp .ge 17, 3) := dgX9_bits_0.2.2.2.2.2.2.1
theorem dX9_bits_10 : decode cX9_bits 10 = .ok (.iload_n 1, 1) := dgX9_bits_0.2.2.2.2.2.2.2.1
theorem dX9_bits_11 : decode cX9_bits 11 = .ok (.iload_n 0, 1) := dgX9_bits_0.2.2.2.2.2.2.2.2.1
theorem dX9_bits_12 : decode cX9_bits 12 = .ok (.iload_n 2, 1) := dgX9_bits_0.2.2.2.2.2.2.2.2.2.1
theorem dX9_bits_13 : decode cX9_bits 13 = .ok (.ishr, 1) := dgX9_bits_0.2.2.2.2.2.2.2.2.2.2.1
theorem dX9_bits_14 : decode cX9_bits 14 = .ok (.iconst 1, 1) := dgX9_bits_0.2.2.2.2.2.2.2.2.2.2.2.1
theorem dX9_bits_15 : decode cX9_bits 15 = .ok (.iand, 1) := dgX9_bits_0.2.2.2.2.2.2.2.2.2.2.2.2.1
theorem dX9_bits_16 : decode cX9_bits 16 = .ok (.iadd, 1) := dgX9_bits_0.2.2.2.2.2.2.2.2.2.2.2.2.2.1
theorem dX9_bits_17 : decode cX9_bits 17 = .ok (.istore_n 1, 1) := dgX9_bits_0.2.2.2.2.2.2.2.2.2.2.2.2.2.2.1
theorem dX9_bits_18 : decode cX9_bits 18 = .ok (.iinc 2 1, 3) := dgX9_bits_0.2.2.2.2.2.2.2.2.2.2.2.2.2.2.2
theorem dgX9_bits_1 : decode cX9_bits 21 = .ok (.goto (-17), 3) ∧ decode cX9_bits 24 = .ok (.iload_n 1, 1) ∧ decode cX9_bits 25 = .ok (.ireturn, 1) := by decide +kernel
theorem dX9_bits_21 : decode cX9_bits 21 = .ok (.goto (-17), 3) := dgX9_bits_1.1
theorem dX9_bits_24 : decode cX9_bits 24 = .ok (.iload_n 1, 1) := dgX9_bits_1.2.1
theorem dX9_bits_25 : decode cX9_bits 25 = .ok (.ireturn, 1) := dgX9_bits_1.2.2
abbrev pX9_bits : List Nat := [0, 4, 24]
def bX9_bits_0 (cal : ab_F) : ab_K := o_push (.int 0) <| o_istore 1 <| o_push (.int 0) <| o_istore 2 <| o_goto 1
def bX9_bits_1 (cal : ab_F) : ab_K := o_iload 2 <| o_push (.int 12) <| o_cmp (fun x y => decide (y ≤ x)) 2 <| o_iload 1 <| o_iload 0 <| o_iload 2 <| o_bin (fun x y => x >>> (y &&& 31)) <| o_push (.int 1) <| o_bin (fun x y => x &&& y) <| o_bin (fun x y => x + y) <| o_istore 1 <| o_iinc 2 1 <| o_goto 1
def bX9_bits_2 (cal : ab_F) : ab_K := o_iload 1 <| o_ret (some .int)
def bX9_bits (cal : ab_F) : List ab_K := [bX9_bits_0 cal, bX9_bits_1 cal, bX9_bits_2 cal]
set_option maxRecDepth 100000 in
theorem sX9_bits_0 {G : ab_G} {xs : List Int32} {d : Nat} {cal : ab_F} (hcs : ab_CS G (ab_Z G xs) ab_Mf cal d) : ab_Sd G (ab_Z G xs) (d + 1) (ab_mY mX9_bits pX9_bits) 0 (bX9_bits_0 cal) :=
  sn_iconst dX9_bits_0 rfl <| sn_istore_n dX9_bits_1 rfl (by decide) <| sn_iconst dX9_bits_2 rfl <| sn_istore_n dX9_bits_3 rfl (by decide) <| sn_next rfl
set_option maxRecDepth 100000 in
theorem sX9_bits_1 {G : ab_G} {xs : List Int32} {d : Nat} {cal : ab_F} (hcs : ab_CS G (ab_Z G xs) ab_Mf cal d) : ab_Sd G (ab_Z G xs) (d + 1) (ab_mY mX9_bits pX9_bits) 4 (bX9_bits_1 cal) :=
  sn_iload_n dX9_bits_4 rfl <| sn_bipush dX9_bits_5 rfl <| sn_cmp_ge (tg := 24) dX9_bits_7 rfl rfl <| sn_iload_n dX9_bits_10 rfl <| sn_iload_n dX9_bits_11 rfl <| sn_iload_n dX9_bits_12 rfl <| sn_ishr dX9_bits_13 <| sn_iconst dX9_bits_14 rfl <| sn_iand dX9_bits_15 <| sn_iadd dX9_bits_16 <| sn_istore_n dX9_bits_17 rfl (by decide) <| sn_iinc dX9_bits_18 rfl (by decide) <| sn_goto (tg := 4) dX9_bits_21 rfl rfl
set_option maxRecDepth 100000 in
theorem sX9_bits_2 {G : ab_G} {xs : List Int32} {d : Nat} {cal : ab_F} (hcs : ab_CS G (ab_Z G xs) ab_Mf cal d) : ab_Sd G (ab_Z G xs) (d + 1) (ab_mY mX9_bits pX9_bits) 24 (bX9_bits_2 cal) :=
  sn_iload_n dX9_bits_24 rfl <| sn_ret dX9_bits_25 ab_ri_int
theorem sX9_bits {G : ab_G} {xs : List Int32} {d : Nat} {cal : ab_F} (hcs : ab_CS G (ab_Z G xs) ab_Mf cal d) : ab_BS G (ab_Z G xs) (d + 1) (ab_mY mX9_bits pX9_bits) pX9_bits (bX9_bits cal) := ⟨sX9_bits_0 hcs, sX9_bits_1 hcs, sX9_bits_2 hcs, trivial⟩
theorem dgX9_layable_0 : decode cX9_layable 0 = .ok (.iconst 0, 1) ∧ decode cX9_layable 1 = .ok (.istore_n 2, 1) ∧ decode cX9_layable 2 = .ok (.iconst 0, 1) ∧ decode cX9_layable 3 = .ok (.istore_n 3, 1) ∧ decode cX9_layable 4 = .ok (.iload_n 3, 1) ∧ decode cX9_layable 5 = .ok (.aload_n 0, 1) ∧ decode cX9_layable 6 = .ok (.getfield 9, 3) ∧ decode cX9_layable 9 = .ok (.iconst 1, 1) ∧ decode cX9_layable 10 = .ok (.iaload, 1) ∧ decode cX9_layable 11 = .ok (.if_icmp .ge 40, 3) ∧ decode cX9_layable 14 = .ok (.iload_n 2, 1) ∧ decode cX9_layable 15 = .ok (.aload_n 0, 1) ∧ decode cX9_layable 16 = .ok (.iload_n 3, 1) ∧ decode cX9_layable 17 = .ok (.iconst 3, 1) ∧ decode cX9_layable 18 = .ok (.invokevirtual 96, 3) ∧ decode cX9_layable 21 = .ok (.bipush 12, 2) := by decide +kernel
theorem dX9_layable_0 : decode cX9_layable 0 = .ok (.iconst 0, 1) := dgX9_layable_0.1
theorem dX9_layable_1 : decode cX9_layable 1 = .ok (.istore_n 2, 1) := dgX9_layable_0.2.1
theorem dX9_layable_2 : decode cX9_layable 2 = .ok (.iconst 0, 1) := dgX9_layable_0.2.2.1
theorem dX9_layable_3 : decode cX9_layable 3 = .ok (.istore_n 3, 1) := dgX9_layable_0.2.2.2.1
theorem dX9_layable_4 : decode cX9_layable 4 = .ok (.iload_n 3, 1) := dgX9_layable_0.2.2.2.2.1
theorem dX9_layable_5 : decode cX9_layable 5 = .ok (.aload_n 0, 1) := dgX9_layable_0.2.2.2.2.2.1
theorem dX9_layable_6 : decode cX9_layable 6 = .ok (.getfield 9, 3) := dgX9_layable_0.2.2.2.2.2.2.1
theorem dX9_layable_9 : decode cX9_layable 9 = .ok (.iconst 1, 1) := dgX9_layable_0.2.2.2.2.2.2.2.1
theorem dX9_layable_10 : decode cX9_layable 10 = .ok (.iaload, 1) := dgX9_layable_0.2.2.2.2.2.2.2.2.1
theorem dX9_layable_11 : decode cX9_layable 11 = .ok (.if_icmp .ge 40, 3) := dgX9_layable_0.2.2.2.2.2.2.2.2.2.1
theorem dX9_layable_14 : decode cX9_layable 14 = .ok (.iload_n 2, 1) := dgX9_layable_0.2.2.2.2.2.2.2.2.2.2.1
theorem dX9_layable_15 : decode cX9_layable 15 = .ok (.aload_n 0, 1) := dgX9_layable_0.2.2.2.2.2.2.2.2.2.2.2.1
theorem dX9_layable_16 : decode cX9_layable 16 = .ok (.iload_n 3, 1) := dgX9_layable_0.2.2.2.2.2.2.2.2.2.2.2.2.1
theorem dX9_layable_17 : decode cX9_layable 17 = .ok (.iconst 3, 1) := dgX9_layable_0.2.2.2.2.2.2.2.2.2.2.2.2.2.1
theorem dX9_layable_18 : decode cX9_layable 18 = .ok (.invokevirtual 96, 3) := dgX9_layable_0.2.2.2.2.2.2.2.2.2.2.2.2.2.2.1
theorem dX9_layable_21 : decode cX9_layable 21 = .ok (.bipush 12, 2) := dgX9_layable_0.2.2.2.2.2.2.2.2.2.2.2.2.2.2.2
theorem dgX9_layable_1 : decode cX9_layable 23 = .ok (.if_icmp .eq 13, 3) ∧ decode cX9_layable 26 = .ok (.aload_n 0, 1) ∧ decode cX9_layable 27 = .ok (.iload_n 3, 1) ∧ decode cX9_layable 28 = .ok (.iconst 3, 1) ∧ decode cX9_layable 29 = .ok (.invokevirtual 96, 3) ∧ decode cX9_layable 32 = .ok (.iload_n 1, 1) ∧ decode cX9_layable 33 = .ok (.if_icmp .ge 9, 3) ∧ decode cX9_layable 36 = .ok (.iconst 1, 1) ∧ decode cX9_layable 37 = .ok (.iload_n 3, 1) ∧ decode cX9_layable 38 = .ok (.ishl, 1) ∧ decode cX9_layable 39 = .ok (.goto 4, 3) ∧ decode cX9_layable 42 = .ok (.iconst 0, 1) ∧ decode cX9_layable 43 = .ok (.ior, 1) ∧ decode cX9_layable 44 = .ok (.istore_n 2, 1) ∧ decode cX9_layable 45 = .ok (.iinc 3 1, 3) ∧ decode cX9_layable 48 = .ok (.goto (-44), 3) := by decide +kernel
theorem dX9_layable_23 : decode cX9_layable 23 = .ok (.if_icmp .eq 13, 3) := dgX9_layable_1.1
theorem dX9_layable_26 : decode cX9_layable 26 = .ok (.aload_n 0, 1) := dgX9_layable_1.2.1
theorem dX9_layable_27 : decode cX9_layable 27 = .ok (.iload_n 3, 1) := dgX9_layable_1.2.2.1
theorem dX9_layable_28 : decode cX9_layable 28 = .ok (.iconst 3, 1) := dgX9_layable_1.2.2.2.1
theorem dX9_layable_29 : decode cX9_layable 29 = .ok (.invokevirtual 96, 3) := dgX9_layable_1.2.2.2.2.1
theorem dX9_layable_32 : decode cX9_layable 32 = .ok (.iload_n 1, 1) := dgX9_layable_1.2.2.2.2.2.1
theorem dX9_layable_33 : decode cX9_layable 33 = .ok (.if_icmp .ge 9, 3) := dgX9_layable_1.2.2.2.2.2.2.1
theorem dX9_layable_36 : decode cX9_layable 36 = .ok (.iconst 1, 1) := dgX9_layable_1.2.2.2.2.2.2.2.1
theorem dX9_layable_37 : decode cX9_layable 37 = .ok (.iload_n 3, 1) := dgX9_layable_1.2.2.2.2.2.2.2.2.1
theorem dX9_layable_38 : decode cX9_layable 38 = .ok (.ishl, 1) := dgX9_layable_1.2.2.2.2.2.2.2.2.2.1
theorem dX9_layable_39 : decode cX9_layable 39 = .ok (.goto 4, 3) := dgX9_layable_1.2.2.2.2.2.2.2.2.2.2.1
theorem dX9_layable_42 : decode cX9_layable 42 = .ok (.iconst 0, 1) := dgX9_layable_1.2.2.2.2.2.2.2.2.2.2.2.1
theorem dX9_layable_43 : decode cX9_layable 43 = .ok (.ior, 1) := dgX9_layable_1.2.2.2.2.2.2.2.2.2.2.2.2.1
theorem dX9_layable_44 : decode cX9_layable 44 = .ok (.istore_n 2, 1) := dgX9_layable_1.2.2.2.2.2.2.2.2.2.2.2.2.2.1
theorem dX9_layable_45 : decode cX9_layable 45 = .ok (.iinc 3 1, 3) := dgX9_layable_1.2.2.2.2.2.2.2.2.2.2.2.2.2.2.1
theorem dX9_layable_48 : decode cX9_layable 48 = .ok (.goto (-44), 3) := dgX9_layable_1.2.2.2.2.2.2.2.2.2.2.2.2.2.2.2
theorem dgX9_layable_2 : decode cX9_layable 51 = .ok (.iload_n 2, 1) ∧ decode cX9_layable 52 = .ok (.ireturn, 1) := by decide +kernel
theorem dX9_layable_51 : decode cX9_layable 51 = .ok (.iload_n 2, 1) := dgX9_layable_2.1
theorem dX9_layable_52 : decode cX9_layable 52 = .ok (.ireturn, 1) := dgX9_layable_2.2
abbrev pX9_layable : List Nat := [0, 4, 36, 42, 43, 51]
def bX9_layable_0 (cal : ab_F) : ab_K := o_push (.int 0) <| o_istore 2 <| o_push (.int 0) <| o_istore 3 <| o_goto 1
def bX9_layable_1 (cal : ab_F) : ab_K := o_iload 3 <| o_aload 0 <| o_getf 8 0 <| o_push (.int 1) <| o_iald 0 <| o_cmp (fun x y => decide (y ≤ x)) 5 <| o_iload 2 <| o_aload 0 <| o_iload 3 <| o_push (.int 3) <| o_callV cal 135 2 8 <| o_push (.int 12) <| o_cmp (fun x y => decide (x = y)) 2 <| o_aload 0 <| o_iload 3 <| o_push (.int 3) <| o_callV cal 135 2 8 <| o_iload 1 <| o_cmp (fun x y => decide (y ≤ x)) 3 <| o_goto 2
def bX9_layable_2 (cal : ab_F) : ab_K := o_push (.int 1) <| o_iload 3 <| o_bin (fun x y => x <<< (y &&& 31)) <| o_goto 4
def bX9_layable_3 (cal : ab_F) : ab_K := o_push (.int 0) <| o_goto 4
def bX9_layable_4 (cal : ab_F) : ab_K := o_bin (fun x y => x ||| y) <| o_istore 2 <| o_iinc 3 1 <| o_goto 1
def bX9_layable_5 (cal : ab_F) : ab_K := o_iload 2 <| o_ret (some .int)
def bX9_layable (cal : ab_F) : List ab_K := [bX9_layable_0 cal, bX9_layable_1 cal, bX9_layable_2 cal, bX9_layable_3 cal, bX9_layable_4 cal, bX9_layable_5 cal]
set_option maxRecDepth 100000 in
theorem sX9_layable_0 {G : ab_G} {xs : List Int32} {d : Nat} {cal : ab_F} (hcs : ab_CS G (ab_Z G xs) ab_Mf cal d) : ab_Sd G (ab_Z G xs) (d + 1) (ab_mY mX9_layable pX9_layable) 0 (bX9_layable_0 cal) :=
  sn_iconst dX9_layable_0 rfl <| sn_istore_n dX9_layable_1 rfl (by decide) <| sn_iconst dX9_layable_2 rfl <| sn_istore_n dX9_layable_3 rfl (by decide) <| sn_next rfl
set_option maxRecDepth 100000 in
theorem sX9_layable_1 {G : ab_G} {xs : List Int32} {d : Nat} {cal : ab_F} (hcs : ab_CS G (ab_Z G xs) ab_Mf cal d) : ab_Sd G (ab_Z G xs) (d + 1) (ab_mY mX9_layable pX9_layable) 4 (bX9_layable_1 cal) :=
  sn_iload_n dX9_layable_4 rfl <| sn_aload_n dX9_layable_5 rfl <| sn_getf dX9_layable_6 rfl hinX9 (by decide) w_991 <| sn_iconst dX9_layable_9 rfl <| sn_iald dX9_layable_10 rfl <| sn_cmp_ge (tg := 51) dX9_layable_11 rfl rfl <| sn_iload_n dX9_layable_14 rfl <| sn_aload_n dX9_layable_15 rfl <| sn_iload_n dX9_layable_16 rfl <| sn_iconst dX9_layable_17 rfl <| sq_callV mt_135 hcs dX9_layable_18 rfl w_1123 w_1125 w_18 w_63 w_1126 hy_135 hm_135 <| sn_bipush dX9_layable_21 rfl <| sn_cmp_eq (tg := 36) dX9_layable_23 rfl rfl <| sn_aload_n dX9_layable_26 rfl <| sn_iload_n dX9_layable_27 rfl <| sn_iconst dX9_layable_28 rfl <| sq_callV mt_135 hcs dX9_layable_29 rfl w_1123 w_1125 w_18 w_63 w_1126 hy_135 hm_135 <| sn_iload_n dX9_layable_32 rfl <| sn_cmp_ge (tg := 42) dX9_layable_33 rfl rfl <| sn_next rfl
set_option maxRecDepth 100000 in
theorem sX9_layable_2 {G : ab_G} {xs : List Int32} {d : Nat} {cal : ab_F} (hcs : ab_CS G (ab_Z G xs) ab_Mf cal d) : ab_Sd G (ab_Z G xs) (d + 1) (ab_mY mX9_layable pX9_layable) 36 (bX9_layable_2 cal) :=
  sn_iconst dX9_layable_36 rfl <| sn_iload_n dX9_layable_37 rfl <| sn_ishl dX9_layable_38 <| sn_goto (tg := 43) dX9_layable_39 rfl rfl
set_option maxRecDepth 100000 in
theorem sX9_layable_3 {G : ab_G} {xs : List Int32} {d : Nat} {cal : ab_F} (hcs : ab_CS G (ab_Z G xs) ab_Mf cal d) : ab_Sd G (ab_Z G xs) (d + 1) (ab_mY mX9_layable pX9_layable) 42 (bX9_layable_3 cal) :=
  sn_iconst dX9_layable_42 rfl <| sn_next rfl
set_option maxRecDepth 100000 in
theorem sX9_layable_4 {G : ab_G} {xs : List Int32} {d : Nat} {cal : ab_F} (hcs : ab_CS G (ab_Z G xs) ab_Mf cal d) : ab_Sd G (ab_Z G xs) (d + 1) (ab_mY mX9_layable pX9_layable) 43 (bX9_layable_4 cal) :=
  sn_ior dX9_layable_43 <| sn_istore_n dX9_layable_44 rfl (by decide) <| sn_iinc dX9_layable_45 rfl (by decide) <| sn_goto (tg := 4) dX9_layable_48 rfl rfl
set_option maxRecDepth 100000 in
theorem sX9_layable_5 {G : ab_G} {xs : List Int32} {d : Nat} {cal : ab_F} (hcs : ab_CS G (ab_Z G xs) ab_Mf cal d) : ab_Sd G (ab_Z G xs) (d + 1) (ab_mY mX9_layable pX9_layable) 51 (bX9_layable_5 cal) :=
  sn_iload_n dX9_layable_51 rfl <| sn_ret dX9_layable_52 ab_ri_int
theorem sX9_layable {G : ab_G} {xs : List Int32} {d : Nat} {cal : ab_F} (hcs : ab_CS G (ab_Z G xs) ab_Mf cal d) : ab_BS G (ab_Z G xs) (d + 1) (ab_mY mX9_layable pX9_layable) pX9_layable (bX9_layable cal) := ⟨sX9_layable_0 hcs, sX9_layable_1 hcs, sX9_layable_2 hcs, sX9_layable_3 hcs, sX9_layable_4 hcs, sX9_layable_5 hcs, trivial⟩
theorem dgX9_best_0 : decode cX9_best 0 = .ok (.iload_n 1, 1) ∧ decode cX9_best 1 = .ok (.iconst 1, 1) ∧ decode cX9_best 2 = .ok (.bipush 6, 2) ∧ decode cX9_best 4 = .ok (.invokestatic 86, 3) ∧ decode cX9_best 7 = .ok (.ifCond .eq 12, 3) ∧ decode cX9_best 10 = .ok (.iload_n 2, 1) ∧ decode cX9_best 11 = .ok (.iconst 0, 1) ∧ decode cX9_best 12 = .ok (.iconst 1, 1) ∧ decode cX9_best 13 = .ok (.invokestatic 86, 3) ∧ decode cX9_best 16 = .ok (.ifCond .ne 6, 3) ∧ decode cX9_best 19 = .ok (.ldc 90, 2) ∧ decode cX9_best 21 = .ok (.ireturn, 1) ∧ decode cX9_best 22 = .ok (.aload_n 0, 1) ∧ decode cX9_best 23 = .ok (.iload_n 1, 1) ∧ decode cX9_best 24 = .ok (.invokevirtual 174, 3) ∧ decode cX9_best 27 = .ok (.istore_n 3, 1) := by decide +kernel
theorem dX9_best_0 : decode cX9_best 0 = .ok (.iload_n 1, 1) := dgX9_best_0.1
theorem dX9_best_1 : decode cX9_best 1 = .ok (.iconst 1, 1) := dgX9_best_0.2.1
theorem dX9_best_2 : decode cX9_best 2 = .ok (.bipush 6, 2) := dgX9_best_0.2.2.1
theorem dX9_best_4 : decode cX9_best 4 = .ok (.invokestatic 86, 3) := dgX9_best_0.2.2.2.1
theorem dX9_best_7 : decode cX9_best 7 = .ok (.ifCond .eq 12, 3) := dgX9_best_0.2.2.2.2.1
theorem dX9_best_10 : decode cX9_best 10 = .ok (.iload_n 2, 1) := dgX9_best_0.2.2.2.2.2.1
theorem dX9_best_11 : decode cX9_best 11 = .ok (.iconst 0, 1) := dgX9_best_0.2.2.2.2.2.2.1
theorem dX9_best_12 : decode cX9_best 12 = .ok (.iconst 1, 1) := dgX9_best_0.2.2.2.2.2.2.2.1
theorem dX9_best_13 : decode cX9_best 13 = .ok (.invokestatic 86, 3) := dgX9_best_0.2.2.2.2.2.2.2.2.1
theorem dX9_best_16 : decode cX9_best 16 = .ok (.ifCond .ne 6, 3) := dgX9_best_0.2.2.2.2.2.2.2.2.2.1
theorem dX9_best_19 : decode cX9_best 19 = .ok (.ldc 90, 2) := dgX9_best_0.2.2.2.2.2.2.2.2.2.2.1
theorem dX9_best_21 : decode cX9_best 21 = .ok (.ireturn, 1) := dgX9_best_0.2.2.2.2.2.2.2.2.2.2.2.1
theorem dX9_best_22 : decode cX9_best 22 = .ok (.aload_n 0, 1) := dgX9_best_0.2.2.2.2.2.2.2.2.2.2.2.2.1
theorem dX9_best_23 : decode cX9_best 23 = .ok (.iload_n 1, 1) := dgX9_best_0.2.2.2.2.2.2.2.2.2.2.2.2.2.1
theorem dX9_best_24 : decode cX9_best 24 = .ok (.invokevirtual 174, 3) := dgX9_best_0.2.2.2.2.2.2.2.2.2.2.2.2.2.2.1
theorem dX9_best_27 : decode cX9_best 27 = .ok (.istore_n 3, 1) := dgX9_best_0.2.2.2.2.2.2.2.2.2.2.2.2.2.2.2
theorem dgX9_best_1 : decode cX9_best 28 = .ok (.iconst 0, 1) ∧ decode cX9_best 29 = .ok (.istore 4, 2) ∧ decode cX9_best 31 = .ok (.iload 4, 2) ∧ decode cX9_best 33 = .ok (.aload_n 0, 1) ∧ decode cX9_best 34 = .ok (.getfield 9, 3) ∧ decode cX9_best 37 = .ok (.iconst 1, 1) ∧ decode cX9_best 38 = .ok (.iaload, 1) ∧ decode cX9_best 39 = .ok (.if_icmp .ge 45, 3) ∧ decode cX9_best 42 = .ok (.iconst 0, 1) ∧ decode cX9_best 43 = .ok (.istore 5, 2) ∧ decode cX9_best 45 = .ok (.iload 5, 2) ∧ decode cX9_best 47 = .ok (.iload_n 1, 1) ∧ decode cX9_best 48 = .ok (.if_icmp .ge 30, 3) ∧ decode cX9_best 51 = .ok (.aload_n 0, 1) ∧ decode cX9_best 52 = .ok (.getfield 26, 3) ∧ decode cX9_best 55 = .ok (.bipush 12, 2) := by decide +kernel
theorem dX9_best_28 : decode cX9_best 28 = .ok (.iconst 0, 1) := dgX9_best_1.1
theorem dX9_best_29 : decode cX9_best 29 = .ok (.istore 4, 2) := dgX9_best_1.2.1
theorem dX9_best_31 : decode cX9_best 31 = .ok (.iload 4, 2) := dgX9_best_1.2.2.1
theorem dX9_best_33 : decode cX9_best 33 = .ok (.aload_n 0, 1) := dgX9_best_1.2.2.2.1
theorem dX9_best_34 : decode cX9_best 34 = .ok (.getfield 9, 3) := dgX9_best_1.2.2.2.2.1
theorem dX9_best_37 : decode cX9_best 37 = .ok (.iconst 1, 1) := dgX9_best_1.2.2.2.2.2.1
theorem dX9_best_38 : decode cX9_best 38 = .ok (.iaload, 1) := dgX9_best_1.2.2.2.2.2.2.1
theorem dX9_best_39 : decode cX9_best 39 = .ok (.if_icmp .ge 45, 3) := dgX9_best_1.2.2.2.2.2.2.2.1
theorem dX9_best_42 : decode cX9_best 42 = .ok (.iconst 0, 1) := dgX9_best_1.2.2.2.2.2.2.2.2.1
theorem dX9_best_43 : decode cX9_best 43 = .ok (.istore 5, 2) := dgX9_best_1.2.2.2.2.2.2.2.2.2.1
theorem dX9_best_45 : decode cX9_best 45 = .ok (.iload 5, 2) := dgX9_best_1.2.2.2.2.2.2.2.2.2.2.1
theorem dX9_best_47 : decode cX9_best 47 = .ok (.iload_n 1, 1) := dgX9_best_1.2.2.2.2.2.2.2.2.2.2.2.1
theorem dX9_best_48 : decode cX9_best 48 = .ok (.if_icmp .ge 30, 3) := dgX9_best_1.2.2.2.2.2.2.2.2.2.2.2.2.1
theorem dX9_best_51 : decode cX9_best 51 = .ok (.aload_n 0, 1) := dgX9_best_1.2.2.2.2.2.2.2.2.2.2.2.2.2.1
theorem dX9_best_52 : decode cX9_best 52 = .ok (.getfield 26, 3) := dgX9_best_1.2.2.2.2.2.2.2.2.2.2.2.2.2.2.1
theorem dX9_best_55 : decode cX9_best 55 = .ok (.bipush 12, 2) := dgX9_best_1.2.2.2.2.2.2.2.2.2.2.2.2.2.2.2
theorem dgX9_best_2 : decode cX9_best 57 = .ok (.iload 4, 2) ∧ decode cX9_best 59 = .ok (.imul, 1) ∧ decode cX9_best 60 = .ok (.iload 5, 2) ∧ decode cX9_best 62 = .ok (.iadd, 1) ∧ decode cX9_best 63 = .ok (.aload_n 0, 1) ∧ decode cX9_best 64 = .ok (.iload 4, 2) ∧ decode cX9_best 66 = .ok (.iload 5, 2) ∧ decode cX9_best 68 = .ok (.invokevirtual 177, 3) ∧ decode cX9_best 71 = .ok (.iastore, 1) ∧ decode cX9_best 72 = .ok (.iinc 5 1, 3) ∧ decode cX9_best 75 = .ok (.goto (-30), 3) ∧ decode cX9_best 78 = .ok (.iinc 4 1, 3) ∧ decode cX9_best 81 = .ok (.goto (-50), 3) ∧ decode cX9_best 84 = .ok (.iconst 1, 1) ∧ decode cX9_best 85 = .ok (.aload_n 0, 1) ∧ decode cX9_best 86 = .ok (.getfield 9, 3) := by decide +kernel
theorem dX9_best_57 : decode cX9_best 57 = .ok (.iload 4, 2) := dgX9_best_2.1
theorem dX9_best_59 : decode cX9_best 59 = .ok (.imul, 1) := dgX9_best_2.2.1
theorem dX9_best_60 : decode cX9_best 60 = .ok (.iload 5, 2) := dgX9_best_2.2.2.1
theorem dX9_best_62 : decode cX9_best 62 = .ok (.iadd, 1) := dgX9_best_2.2.2.2.1
theorem dX9_best_63 : decode cX9_best 63 = .ok (.aload_n 0, 1) := dgX9_best_2.2.2.2.2.1
theorem dX9_best_64 : decode cX9_best 64 = .ok (.iload 4, 2) := dgX9_best_2.2.2.2.2.2.1
theorem dX9_best_66 : decode cX9_best 66 = .ok (.iload 5, 2) := dgX9_best_2.2.2.2.2.2.2.1
theorem dX9_best_68 : decode cX9_best 68 = .ok (.invokevirtual 177, 3) := dgX9_best_2.2.2.2.2.2.2.2.1
theorem dX9_best_71 : decode cX9_best 71 = .ok (.iastore, 1) := dgX9_best_2.2.2.2.2.2.2.2.2.1
theorem dX9_best_72 : decode cX9_best 72 = .ok (.iinc 5 1, 3) := dgX9_best_2.2.2.2.2.2.2.2.2.2.1
theorem dX9_best_75 : decode cX9_best 75 = .ok (.goto (-30), 3) := dgX9_best_2.2.2.2.2.2.2.2.2.2.2.1
theorem dX9_best_78 : decode cX9_best 78 = .ok (.iinc 4 1, 3) := dgX9_best_2.2.2.2.2.2.2.2.2.2.2.2.1
theorem dX9_best_81 : decode cX9_best 81 = .ok (.goto (-50), 3) := dgX9_best_2.2.2.2.2.2.2.2.2.2.2.2.2.1
theorem dX9_best_84 : decode cX9_best 84 = .ok (.iconst 1, 1) := dgX9_best_2.2.2.2.2.2.2.2.2.2.2.2.2.2.1
theorem dX9_best_85 : decode cX9_best 85 = .ok (.aload_n 0, 1) := dgX9_best_2.2.2.2.2.2.2.2.2.2.2.2.2.2.2.1
theorem dX9_best_86 : decode cX9_best 86 = .ok (.getfield 9, 3) := dgX9_best_2.2.2.2.2.2.2.2.2.2.2.2.2.2.2.2
theorem dgX9_best_3 : decode cX9_best 89 = .ok (.iconst 1, 1) ∧ decode cX9_best 90 = .ok (.iaload, 1) ∧ decode cX9_best 91 = .ok (.ishl, 1) ∧ decode cX9_best 92 = .ok (.istore 4, 2) ∧ decode cX9_best 94 = .ok (.iconst 0, 1) ∧ decode cX9_best 95 = .ok (.istore 5, 2) ∧ decode cX9_best 97 = .ok (.iload 5, 2) ∧ decode cX9_best 99 = .ok (.iload 4, 2) ∧ decode cX9_best 101 = .ok (.if_icmp .ge 26, 3) ∧ decode cX9_best 104 = .ok (.aload_n 0, 1) ∧ decode cX9_best 105 = .ok (.getfield 23, 3) ∧ decode cX9_best 108 = .ok (.iload 5, 2) ∧ decode cX9_best 110 = .ok (.iload 5, 2) ∧ decode cX9_best 112 = .ok (.ifCond .ne 7, 3) ∧ decode cX9_best 115 = .ok (.iconst 0, 1) ∧ decode cX9_best 116 = .ok (.goto 4, 3) := by decide +kernel
theorem dX9_best_89 : decode cX9_best 89 = .ok (.iconst 1, 1) := dgX9_best_3.1
theorem dX9_best_90 : decode cX9_best 90 = .ok (.iaload, 1) := dgX9_best_3.2.1
theorem dX9_best_91 : decode cX9_best 91 = .ok (.ishl, 1) := dgX9_best_3.2.2.1
theorem dX9_best_92 : decode cX9_best 92 = .ok (.istore 4, 2) := dgX9_best_3.2.2.2.1
theorem dX9_best_94 : decode cX9_best 94 = .ok (.iconst 0, 1) := dgX9_best_3.2.2.2.2.1
theorem dX9_best_95 : decode cX9_best 95 = .ok (.istore 5, 2) := dgX9_best_3.2.2.2.2.2.1
theorem dX9_best_97 : decode cX9_best 97 = .ok (.iload 5, 2) := dgX9_best_3.2.2.2.2.2.2.1
theorem dX9_best_99 : decode cX9_best 99 = .ok (.iload 4, 2) := dgX9_best_3.2.2.2.2.2.2.2.1
theorem dX9_best_101 : decode cX9_best 101 = .ok (.if_icmp .ge 26, 3) := dgX9_best_3.2.2.2.2.2.2.2.2.1
theorem dX9_best_104 : decode cX9_best 104 = .ok (.aload_n 0, 1) := dgX9_best_3.2.2.2.2.2.2.2.2.2.1
theorem dX9_best_105 : decode cX9_best 105 = .ok (.getfield 23, 3) := dgX9_best_3.2.2.2.2.2.2.2.2.2.2.1
theorem dX9_best_108 : decode cX9_best 108 = .ok (.iload 5, 2) := dgX9_best_3.2.2.2.2.2.2.2.2.2.2.2.1
theorem dX9_best_110 : decode cX9_best 110 = .ok (.iload 5, 2) := dgX9_best_3.2.2.2.2.2.2.2.2.2.2.2.2.1
theorem dX9_best_112 : decode cX9_best 112 = .ok (.ifCond .ne 7, 3) := dgX9_best_3.2.2.2.2.2.2.2.2.2.2.2.2.2.1
theorem dX9_best_115 : decode cX9_best 115 = .ok (.iconst 0, 1) := dgX9_best_3.2.2.2.2.2.2.2.2.2.2.2.2.2.2.1
theorem dX9_best_116 : decode cX9_best 116 = .ok (.goto 4, 3) := dgX9_best_3.2.2.2.2.2.2.2.2.2.2.2.2.2.2.2
theorem dgX9_best_4 : decode cX9_best 119 = .ok (.iconst (-1), 1) ∧ decode cX9_best 120 = .ok (.iastore, 1) ∧ decode cX9_best 121 = .ok (.iinc 5 1, 3) ∧ decode cX9_best 124 = .ok (.goto (-27), 3) ∧ decode cX9_best 127 = .ok (.iconst (-1), 1) ∧ decode cX9_best 128 = .ok (.istore 5, 2) ∧ decode cX9_best 130 = .ok (.iconst 0, 1) ∧ decode cX9_best 131 = .ok (.istore 6, 2) ∧ decode cX9_best 133 = .ok (.iconst 0, 1) ∧ decode cX9_best 134 = .ok (.istore 7, 2) ∧ decode cX9_best 136 = .ok (.iload 7, 2) ∧ decode cX9_best 138 = .ok (.iload 4, 2) ∧ decode cX9_best 140 = .ok (.if_icmp .ge 201, 3) ∧ decode cX9_best 143 = .ok (.iload_n 1, 1) ∧ decode cX9_best 144 = .ok (.iconst 1, 1) ∧ decode cX9_best 145 = .ok (.isub, 1) := by decide +kernel
theorem dX9_best_119 : decode cX9_best 119 = .ok (.iconst (-1), 1) := dgX9_best_4.1
theorem dX9_best_120 : decode cX9_best 120 = .ok (.iastore, 1) := dgX9_best_4.2.1
theorem dX9_best_121 : decode cX9_best 121 = .ok (.iinc 5 1, 3) := dgX9_best_4.2.2.1
theorem dX9_best_124 : decode cX9_best 124 = .ok (.goto (-27), 3) := dgX9_best_4.2.2.2.1
theorem dX9_best_127 : decode cX9_best 127 = .ok (.iconst (-1), 1) := dgX9_best_4.2.2.2.2.1
theorem dX9_best_128 : decode cX9_best 128 = .ok (.istore 5, 2) := dgX9_best_4.2.2.2.2.2.1
theorem dX9_best_130 : decode cX9_best 130 = .ok (.iconst 0, 1) := dgX9_best_4.2.2.2.2.2.2.1
theorem dX9_best_131 : decode cX9_best 131 = .ok (.istore 6, 2) := dgX9_best_4.2.2.2.2.2.2.2.1
theorem dX9_best_133 : decode cX9_best 133 = .ok (.iconst 0, 1) := dgX9_best_4.2.2.2.2.2.2.2.2.1
theorem dX9_best_134 : decode cX9_best 134 = .ok (.istore 7, 2) := dgX9_best_4.2.2.2.2.2.2.2.2.2.1
theorem dX9_best_136 : decode cX9_best 136 = .ok (.iload 7, 2) := dgX9_best_4.2.2.2.2.2.2.2.2.2.2.1
theorem dX9_best_138 : decode cX9_best 138 = .ok (.iload 4, 2) := dgX9_best_4.2.2.2.2.2.2.2.2.2.2.2.1
theorem dX9_best_140 : decode cX9_best 140 = .ok (.if_icmp .ge 201, 3) := dgX9_best_4.2.2.2.2.2.2.2.2.2.2.2.2.1
theorem dX9_best_143 : decode cX9_best 143 = .ok (.iload_n 1, 1) := dgX9_best_4.2.2.2.2.2.2.2.2.2.2.2.2.2.1
theorem dX9_best_144 : decode cX9_best 144 = .ok (.iconst 1, 1) := dgX9_best_4.2.2.2.2.2.2.2.2.2.2.2.2.2.2.1
theorem dX9_best_145 : decode cX9_best 145 = .ok (.isub, 1) := dgX9_best_4.2.2.2.2.2.2.2.2.2.2.2.2.2.2.2
theorem dgX9_best_5 : decode cX9_best 146 = .ok (.iload 7, 2) ∧ decode cX9_best 148 = .ok (.invokestatic 180, 3) ∧ decode cX9_best 151 = .ok (.isub, 1) ∧ decode cX9_best 152 = .ok (.istore 8, 2) ∧ decode cX9_best 154 = .ok (.iconst 0, 1) ∧ decode cX9_best 155 = .ok (.istore 9, 2) ∧ decode cX9_best 157 = .ok (.iload 9, 2) ∧ decode cX9_best 159 = .ok (.aload_n 0, 1) ∧ decode cX9_best 160 = .ok (.getfield 9, 3) ∧ decode cX9_best 163 = .ok (.iconst 1, 1) ∧ decode cX9_best 164 = .ok (.iaload, 1) ∧ decode cX9_best 165 = .ok (.if_icmp .ge 170, 3) ∧ decode cX9_best 168 = .ok (.iload 8, 2) ∧ decode cX9_best 170 = .ok (.ifCond .lt 165, 3) ∧ decode cX9_best 173 = .ok (.aload_n 0, 1) ∧ decode cX9_best 174 = .ok (.getfield 23, 3) := by decide +kernel
theorem dX9_best_146 : decode cX9_best 146 = .ok (.iload 7, 2) := dgX9_best_5.1
theorem dX9_best_148 : decode cX9_best 148 = .ok (.invokestatic 180, 3) := dgX9_best_5.2.1
theorem dX9_best_151 : decode cX9_best 151 = .ok (.isub, 1) := dgX9_best_5.2.2.1
theorem dX9_best_152 : decode cX9_best 152 = .ok (.istore 8, 2) := dgX9_best_5.2.2.2.1
theorem dX9_best_154 : decode cX9_best 154 = .ok (.iconst 0, 1) := dgX9_best_5.2.2.2.2.1
theorem dX9_best_155 : decode cX9_best 155 = .ok (.istore 9, 2) := dgX9_best_5.2.2.2.2.2.1
theorem dX9_best_157 : decode cX9_best 157 = .ok (.iload 9, 2) := dgX9_best_5.2.2.2.2.2.2.1
theorem dX9_best_159 : decode cX9_best 159 = .ok (.aload_n 0, 1) := dgX9_best_5.2.2.2.2.2.2.2.1
theorem dX9_best_160 : decode cX9_best 160 = .ok (.getfield 9, 3) := dgX9_best_5.2.2.2.2.2.2.2.2.1
theorem dX9_best_163 : decode cX9_best 163 = .ok (.iconst 1, 1) := dgX9_best_5.2.2.2.2.2.2.2.2.2.1
theorem dX9_best_164 : decode cX9_best 164 = .ok (.iaload, 1) := dgX9_best_5.2.2.2.2.2.2.2.2.2.2.1
theorem dX9_best_165 : decode cX9_best 165 = .ok (.if_icmp .ge 170, 3) := dgX9_best_5.2.2.2.2.2.2.2.2.2.2.2.1
theorem dX9_best_168 : decode cX9_best 168 = .ok (.iload 8, 2) := dgX9_best_5.2.2.2.2.2.2.2.2.2.2.2.2.1
theorem dX9_best_170 : decode cX9_best 170 = .ok (.ifCond .lt 165, 3) := dgX9_best_5.2.2.2.2.2.2.2.2.2.2.2.2.2.1
theorem dX9_best_173 : decode cX9_best 173 = .ok (.aload_n 0, 1) := dgX9_best_5.2.2.2.2.2.2.2.2.2.2.2.2.2.2.1
theorem dX9_best_174 : decode cX9_best 174 = .ok (.getfield 23, 3) := dgX9_best_5.2.2.2.2.2.2.2.2.2.2.2.2.2.2.2
theorem dgX9_best_6 : decode cX9_best 177 = .ok (.iload 7, 2) ∧ decode cX9_best 179 = .ok (.iaload, 1) ∧ decode cX9_best 180 = .ok (.ifCond .lt 155, 3) ∧ decode cX9_best 183 = .ok (.iload_n 3, 1) ∧ decode cX9_best 184 = .ok (.iload 7, 2) ∧ decode cX9_best 186 = .ok (.iconst (-1), 1) ∧ decode cX9_best 187 = .ok (.ixor, 1) ∧ decode cX9_best 188 = .ok (.iand, 1) ∧ decode cX9_best 189 = .ok (.iconst 1, 1) ∧ decode cX9_best 190 = .ok (.iload 9, 2) ∧ decode cX9_best 192 = .ok (.ishl, 1) ∧ decode cX9_best 193 = .ok (.iand, 1) ∧ decode cX9_best 194 = .ok (.ifCond .eq 135, 3) ∧ decode cX9_best 197 = .ok (.aload_n 0, 1) ∧ decode cX9_best 198 = .ok (.getfield 23, 3) ∧ decode cX9_best 201 = .ok (.iload 7, 2) := by decide +kernel
theorem dX9_best_177 : decode cX9_best 177 = .ok (.iload 7, 2) := dgX9_best_6.1
theorem dX9_best_179 : decode cX9_best 179 = .ok (.iaload, 1) := dgX9_best_6.2.1
theorem dX9_best_180 : decode cX9_best 180 = .ok (.ifCond .lt 155, 3) := dgX9_best_6.2.2.1
theorem dX9_best_183 : decode cX9_best 183 = .ok (.iload_n 3, 1) := dgX9_best_6.2.2.2.1
theorem dX9_best_184 : decode cX9_best 184 = .ok (.iload 7, 2) := dgX9_best_6.2.2.2.2.1
theorem dX9_best_186 : decode cX9_best 186 = .ok (.iconst (-1), 1) := dgX9_best_6.2.2.2.2.2.1
theorem dX9_best_187 : decode cX9_best 187 = .ok (.ixor, 1) := dgX9_best_6.2.2.2.2.2.2.1
theorem dX9_best_188 : decode cX9_best 188 = .ok (.iand, 1) := dgX9_best_6.2.2.2.2.2.2.2.1
theorem dX9_best_189 : decode cX9_best 189 = .ok (.iconst 1, 1) := dgX9_best_6.2.2.2.2.2.2.2.2.1
theorem dX9_best_190 : decode cX9_best 190 = .ok (.iload 9, 2) := dgX9_best_6.2.2.2.2.2.2.2.2.2.1
theorem dX9_best_192 : decode cX9_best 192 = .ok (.ishl, 1) := dgX9_best_6.2.2.2.2.2.2.2.2.2.2.1
theorem dX9_best_193 : decode cX9_best 193 = .ok (.iand, 1) := dgX9_best_6.2.2.2.2.2.2.2.2.2.2.2.1
theorem dX9_best_194 : decode cX9_best 194 = .ok (.ifCond .eq 135, 3) := dgX9_best_6.2.2.2.2.2.2.2.2.2.2.2.2.1
theorem dX9_best_197 : decode cX9_best 197 = .ok (.aload_n 0, 1) := dgX9_best_6.2.2.2.2.2.2.2.2.2.2.2.2.2.1
theorem dX9_best_198 : decode cX9_best 198 = .ok (.getfield 23, 3) := dgX9_best_6.2.2.2.2.2.2.2.2.2.2.2.2.2.2.1
theorem dX9_best_201 : decode cX9_best 201 = .ok (.iload 7, 2) := dgX9_best_6.2.2.2.2.2.2.2.2.2.2.2.2.2.2.2
theorem dgX9_best_7 : decode cX9_best 203 = .ok (.iaload, 1) ∧ decode cX9_best 204 = .ok (.aload_n 0, 1) ∧ decode cX9_best 205 = .ok (.getfield 26, 3) ∧ decode cX9_best 208 = .ok (.bipush 12, 2) ∧ decode cX9_best 210 = .ok (.iload 9, 2) ∧ decode cX9_best 212 = .ok (.imul, 1) ∧ decode cX9_best 213 = .ok (.iload 8, 2) ∧ decode cX9_best 215 = .ok (.iadd, 1) ∧ decode cX9_best 216 = .ok (.iaload, 1) ∧ decode cX9_best 217 = .ok (.iadd, 1) ∧ decode cX9_best 218 = .ok (.istore 10, 2) ∧ decode cX9_best 220 = .ok (.iload 7, 2) ∧ decode cX9_best 222 = .ok (.iconst 1, 1) ∧ decode cX9_best 223 = .ok (.iload 9, 2) ∧ decode cX9_best 225 = .ok (.ishl, 1) ∧ decode cX9_best 226 = .ok (.ior, 1) := by decide +kernel
theorem dX9_best_203 : decode cX9_best 203 = .ok (.iaload, 1) := dgX9_best_7.1
theorem dX9_best_204 : decode cX9_best 204 = .ok (.aload_n 0, 1) := dgX9_best_7.2.1
theorem dX9_best_205 : decode cX9_best 205 = .ok (.getfield 26, 3) := dgX9_best_7.2.2.1
theorem dX9_best_208 : decode cX9_best 208 = .ok (.bipush 12, 2) := dgX9_best_7.2.2.2.1
theorem dX9_best_210 : decode cX9_best 210 = .ok (.iload 9, 2) := dgX9_best_7.2.2.2.2.1
theorem dX9_best_212 : decode cX9_best 212 = .ok (.imul, 1) := dgX9_best_7.2.2.2.2.2.1
theorem dX9_best_213 : decode cX9_best 213 = .ok (.iload 8, 2) := dgX9_best_7.2.2.2.2.2.2.1
theorem dX9_best_215 : decode cX9_best 215 = .ok (.iadd, 1) := dgX9_best_7.2.2.2.2.2.2.2.1
theorem dX9_best_216 : decode cX9_best 216 = .ok (.iaload, 1) := dgX9_best_7.2.2.2.2.2.2.2.2.1
theorem dX9_best_217 : decode cX9_best 217 = .ok (.iadd, 1) := dgX9_best_7.2.2.2.2.2.2.2.2.2.1
theorem dX9_best_218 : decode cX9_best 218 = .ok (.istore 10, 2) := dgX9_best_7.2.2.2.2.2.2.2.2.2.2.1
theorem dX9_best_220 : decode cX9_best 220 = .ok (.iload 7, 2) := dgX9_best_7.2.2.2.2.2.2.2.2.2.2.2.1
theorem dX9_best_222 : decode cX9_best 222 = .ok (.iconst 1, 1) := dgX9_best_7.2.2.2.2.2.2.2.2.2.2.2.2.1
theorem dX9_best_223 : decode cX9_best 223 = .ok (.iload 9, 2) := dgX9_best_7.2.2.2.2.2.2.2.2.2.2.2.2.2.1
theorem dX9_best_225 : decode cX9_best 225 = .ok (.ishl, 1) := dgX9_best_7.2.2.2.2.2.2.2.2.2.2.2.2.2.2.1
theorem dX9_best_226 : decode cX9_best 226 = .ok (.ior, 1) := dgX9_best_7.2.2.2.2.2.2.2.2.2.2.2.2.2.2.2
theorem dgX9_best_8 : decode cX9_best 227 = .ok (.istore 11, 2) ∧ decode cX9_best 229 = .ok (.iload 8, 2) ∧ decode cX9_best 231 = .ok (.ifCond .ne 67, 3) ∧ decode cX9_best 234 = .ok (.iload 5, 2) ∧ decode cX9_best 236 = .ok (.ifCond .lt 24, 3) ∧ decode cX9_best 239 = .ok (.iload 10, 2) ∧ decode cX9_best 241 = .ok (.iload 6, 2) ∧ decode cX9_best 243 = .ok (.if_icmp .lt 17, 3) ∧ decode cX9_best 246 = .ok (.iload 10, 2) ∧ decode cX9_best 248 = .ok (.iload 6, 2) ∧ decode cX9_best 250 = .ok (.if_icmp .ne 14, 3) ∧ decode cX9_best 253 = .ok (.iload 9, 2) ∧ decode cX9_best 255 = .ok (.iload 5, 2) ∧ decode cX9_best 257 = .ok (.if_icmp .ge 7, 3) ∧ decode cX9_best 260 = .ok (.iconst 1, 1) ∧ decode cX9_best 261 = .ok (.goto 4, 3) := by decide +kernel
theorem dX9_best_227 : decode cX9_best 227 = .ok (.istore 11, 2) := dgX9_best_8.1
theorem dX9_best_229 : decode cX9_best 229 = .ok (.iload 8, 2) := dgX9_best_8.2.1
theorem dX9_best_231 : decode cX9_best 231 = .ok (.ifCond .ne 67, 3) := dgX9_best_8.2.2.1
theorem dX9_best_234 : decode cX9_best 234 = .ok (.iload 5, 2) := dgX9_best_8.2.2.2.1
theorem dX9_best_236 : decode cX9_best 236 = .ok (.ifCond .lt 24, 3) := dgX9_best_8.2.2.2.2.1
theorem dX9_best_239 : decode cX9_best 239 = .ok (.iload 10, 2) := dgX9_best_8.2.2.2.2.2.1
theorem dX9_best_241 : decode cX9_best 241 = .ok (.iload 6, 2) := dgX9_best_8.2.2.2.2.2.2.1
theorem dX9_best_243 : decode cX9_best 243 = .ok (.if_icmp .lt 17, 3) := dgX9_best_8.2.2.2.2.2.2.2.1
theorem dX9_best_246 : decode cX9_best 246 = .ok (.iload 10, 2) := dgX9_best_8.2.2.2.2.2.2.2.2.1
theorem dX9_best_248 : decode cX9_best 248 = .ok (.iload 6, 2) := dgX9_best_8.2.2.2.2.2.2.2.2.2.1
theorem dX9_best_250 : decode cX9_best 250 = .ok (.if_icmp .ne 14, 3) := dgX9_best_8.2.2.2.2.2.2.2.2.2.2.1
theorem dX9_best_253 : decode cX9_best 253 = .ok (.iload 9, 2) := dgX9_best_8.2.2.2.2.2.2.2.2.2.2.2.1
theorem dX9_best_255 : decode cX9_best 255 = .ok (.iload 5, 2) := dgX9_best_8.2.2.2.2.2.2.2.2.2.2.2.2.1
theorem dX9_best_257 : decode cX9_best 257 = .ok (.if_icmp .ge 7, 3) := dgX9_best_8.2.2.2.2.2.2.2.2.2.2.2.2.2.1
theorem dX9_best_260 : decode cX9_best 260 = .ok (.iconst 1, 1) := dgX9_best_8.2.2.2.2.2.2.2.2.2.2.2.2.2.2.1
theorem dX9_best_261 : decode cX9_best 261 = .ok (.goto 4, 3) := dgX9_best_8.2.2.2.2.2.2.2.2.2.2.2.2.2.2.2
theorem dgX9_best_9 : decode cX9_best 264 = .ok (.iconst 0, 1) ∧ decode cX9_best 265 = .ok (.istore 12, 2) ∧ decode cX9_best 267 = .ok (.iload 12, 2) ∧ decode cX9_best 269 = .ok (.ifCond .eq 8, 3) ∧ decode cX9_best 272 = .ok (.iload 9, 2) ∧ decode cX9_best 274 = .ok (.goto 5, 3) ∧ decode cX9_best 277 = .ok (.iload 5, 2) ∧ decode cX9_best 279 = .ok (.istore 5, 2) ∧ decode cX9_best 281 = .ok (.iload 12, 2) ∧ decode cX9_best 283 = .ok (.ifCond .eq 8, 3) ∧ decode cX9_best 286 = .ok (.iload 10, 2) ∧ decode cX9_best 288 = .ok (.goto 5, 3) ∧ decode cX9_best 291 = .ok (.iload 6, 2) ∧ decode cX9_best 293 = .ok (.istore 6, 2) ∧ decode cX9_best 295 = .ok (.goto 34, 3) ∧ decode cX9_best 298 = .ok (.aload_n 0, 1) := by decide +kernel
theorem dX9_best_264 : decode cX9_best 264 = .ok (.iconst 0, 1) := dgX9_best_9.1
theorem dX9_best_265 : decode cX9_best 265 = .ok (.istore 12, 2) := dgX9_best_9.2.1
theorem dX9_best_267 : decode cX9_best 267 = .ok (.iload 12, 2) := dgX9_best_9.2.2.1
theorem dX9_best_269 : decode cX9_best 269 = .ok (.ifCond .eq 8, 3) := dgX9_best_9.2.2.2.1
theorem dX9_best_272 : decode cX9_best 272 = .ok (.iload 9, 2) := dgX9_best_9.2.2.2.2.1
theorem dX9_best_274 : decode cX9_best 274 = .ok (.goto 5, 3) := dgX9_best_9.2.2.2.2.2.1
theorem dX9_best_277 : decode cX9_best 277 = .ok (.iload 5, 2) := dgX9_best_9.2.2.2.2.2.2.1
theorem dX9_best_279 : decode cX9_best 279 = .ok (.istore 5, 2) := dgX9_best_9.2.2.2.2.2.2.2.1
theorem dX9_best_281 : decode cX9_best 281 = .ok (.iload 12, 2) := dgX9_best_9.2.2.2.2.2.2.2.2.1
theorem dX9_best_283 : decode cX9_best 283 = .ok (.ifCond .eq 8, 3) := dgX9_best_9.2.2.2.2.2.2.2.2.2.1
theorem dX9_best_286 : decode cX9_best 286 = .ok (.iload 10, 2) := dgX9_best_9.2.2.2.2.2.2.2.2.2.2.1
theorem dX9_best_288 : decode cX9_best 288 = .ok (.goto 5, 3) := dgX9_best_9.2.2.2.2.2.2.2.2.2.2.2.1
theorem dX9_best_291 : decode cX9_best 291 = .ok (.iload 6, 2) := dgX9_best_9.2.2.2.2.2.2.2.2.2.2.2.2.1
theorem dX9_best_293 : decode cX9_best 293 = .ok (.istore 6, 2) := dgX9_best_9.2.2.2.2.2.2.2.2.2.2.2.2.2.1
theorem dX9_best_295 : decode cX9_best 295 = .ok (.goto 34, 3) := dgX9_best_9.2.2.2.2.2.2.2.2.2.2.2.2.2.2.1
theorem dX9_best_298 : decode cX9_best 298 = .ok (.aload_n 0, 1) := dgX9_best_9.2.2.2.2.2.2.2.2.2.2.2.2.2.2.2
theorem dgX9_best_10 : decode cX9_best 299 = .ok (.getfield 23, 3) ∧ decode cX9_best 302 = .ok (.iload 11, 2) ∧ decode cX9_best 304 = .ok (.iaload, 1) ∧ decode cX9_best 305 = .ok (.ifCond .lt 15, 3) ∧ decode cX9_best 308 = .ok (.iload 10, 2) ∧ decode cX9_best 310 = .ok (.aload_n 0, 1) ∧ decode cX9_best 311 = .ok (.getfield 23, 3) ∧ decode cX9_best 314 = .ok (.iload 11, 2) ∧ decode cX9_best 316 = .ok (.iaload, 1) ∧ decode cX9_best 317 = .ok (.if_icmp .ge 12, 3) ∧ decode cX9_best 320 = .ok (.aload_n 0, 1) ∧ decode cX9_best 321 = .ok (.getfield 23, 3) ∧ decode cX9_best 324 = .ok (.iload 11, 2) ∧ decode cX9_best 326 = .ok (.iload 10, 2) ∧ decode cX9_best 328 = .ok (.iastore, 1) ∧ decode cX9_best 329 = .ok (.iinc 9 1, 3) := by decide +kernel
theorem dX9_best_299 : decode cX9_best 299 = .ok (.getfield 23, 3) := dgX9_best_10.1
theorem dX9_best_302 : decode cX9_best 302 = .ok (.iload 11, 2) := dgX9_best_10.2.1
theorem dX9_best_304 : decode cX9_best 304 = .ok (.iaload, 1) := dgX9_best_10.2.2.1
theorem dX9_best_305 : decode cX9_best 305 = .ok (.ifCond .lt 15, 3) := dgX9_best_10.2.2.2.1
theorem dX9_best_308 : decode cX9_best 308 = .ok (.iload 10, 2) := dgX9_best_10.2.2.2.2.1
theorem dX9_best_310 : decode cX9_best 310 = .ok (.aload_n 0, 1) := dgX9_best_10.2.2.2.2.2.1
theorem dX9_best_311 : decode cX9_best 311 = .ok (.getfield 23, 3) := dgX9_best_10.2.2.2.2.2.2.1
theorem dX9_best_314 : decode cX9_best 314 = .ok (.iload 11, 2) := dgX9_best_10.2.2.2.2.2.2.2.1
theorem dX9_best_316 : decode cX9_best 316 = .ok (.iaload, 1) := dgX9_best_10.2.2.2.2.2.2.2.2.1
theorem dX9_best_317 : decode cX9_best 317 = .ok (.if_icmp .ge 12, 3) := dgX9_best_10.2.2.2.2.2.2.2.2.2.1
theorem dX9_best_320 : decode cX9_best 320 = .ok (.aload_n 0, 1) := dgX9_best_10.2.2.2.2.2.2.2.2.2.2.1
theorem dX9_best_321 : decode cX9_best 321 = .ok (.getfield 23, 3) := dgX9_best_10.2.2.2.2.2.2.2.2.2.2.2.1
theorem dX9_best_324 : decode cX9_best 324 = .ok (.iload 11, 2) := dgX9_best_10.2.2.2.2.2.2.2.2.2.2.2.2.1
theorem dX9_best_326 : decode cX9_best 326 = .ok (.iload 10, 2) := dgX9_best_10.2.2.2.2.2.2.2.2.2.2.2.2.2.1
theorem dX9_best_328 : decode cX9_best 328 = .ok (.iastore, 1) := dgX9_best_10.2.2.2.2.2.2.2.2.2.2.2.2.2.2.1
theorem dX9_best_329 : decode cX9_best 329 = .ok (.iinc 9 1, 3) := dgX9_best_10.2.2.2.2.2.2.2.2.2.2.2.2.2.2.2
theorem dgX9_best_11 : decode cX9_best 332 = .ok (.goto (-175), 3) ∧ decode cX9_best 335 = .ok (.iinc 7 1, 3) ∧ decode cX9_best 338 = .ok (.goto (-202), 3) ∧ decode cX9_best 341 = .ok (.iload 5, 2) ∧ decode cX9_best 343 = .ok (.ifCond .ge 8, 3) ∧ decode cX9_best 346 = .ok (.ldc 85, 2) ∧ decode cX9_best 348 = .ok (.goto 14, 3) ∧ decode cX9_best 351 = .ok (.iload_n 2, 1) ∧ decode cX9_best 352 = .ok (.ifCond .ne 8, 3) ∧ decode cX9_best 355 = .ok (.iload 6, 2) ∧ decode cX9_best 357 = .ok (.goto 5, 3) ∧ decode cX9_best 360 = .ok (.iload 5, 2) ∧ decode cX9_best 362 = .ok (.ireturn, 1) := by decide +kernel
theorem dX9_best_332 : decode cX9_best 332 = .ok (.goto (-175), 3) := dgX9_best_11.1
theorem dX9_best_335 : decode cX9_best 335 = .ok (.iinc 7 1, 3) := dgX9_best_11.2.1
theorem dX9_best_338 : decode cX9_best 338 = .ok (.goto (-202), 3) := dgX9_best_11.2.2.1
theorem dX9_best_341 : decode cX9_best 341 = .ok (.iload 5, 2) := dgX9_best_11.2.2.2.1
theorem dX9_best_343 : decode cX9_best 343 = .ok (.ifCond .ge 8, 3) := dgX9_best_11.2.2.2.2.1
theorem dX9_best_346 : decode cX9_best 346 = .ok (.ldc 85, 2) := dgX9_best_11.2.2.2.2.2.1
theorem dX9_best_348 : decode cX9_best 348 = .ok (.goto 14, 3) := dgX9_best_11.2.2.2.2.2.2.1
theorem dX9_best_351 : decode cX9_best 351 = .ok (.iload_n 2, 1) := dgX9_best_11.2.2.2.2.2.2.2.1
theorem dX9_best_352 : decode cX9_best 352 = .ok (.ifCond .ne 8, 3) := dgX9_best_11.2.2.2.2.2.2.2.2.1
theorem dX9_best_355 : decode cX9_best 355 = .ok (.iload 6, 2) := dgX9_best_11.2.2.2.2.2.2.2.2.2.1
theorem dX9_best_357 : decode cX9_best 357 = .ok (.goto 5, 3) := dgX9_best_11.2.2.2.2.2.2.2.2.2.2.1
theorem dX9_best_360 : decode cX9_best 360 = .ok (.iload 5, 2) := dgX9_best_11.2.2.2.2.2.2.2.2.2.2.2.1
theorem dX9_best_362 : decode cX9_best 362 = .ok (.ireturn, 1) := dgX9_best_11.2.2.2.2.2.2.2.2.2.2.2.2
abbrev pX9_best : List Nat := [0, 19, 22, 31, 45, 78, 84, 97, 119, 120, 127, 136, 157, 260, 264, 265, 277, 279, 291, 293, 298, 320, 329, 335, 341, 351, 360, 362]
def bX9_best_0 (cal : ab_F) : ab_K := o_iload 1 <| o_push (.int 1) <| o_push (.int 6) <| o_callS cal 128 3 <| o_if (fun x => decide (x = 0)) 1 <| o_iload 2 <| o_push (.int 0) <| o_push (.int 1) <| o_callS cal 128 3 <| o_if (fun x => decide (¬ x = 0)) 2 <| o_goto 1
def bX9_best_1 (cal : ab_F) : ab_K := o_push (.int (-1000000001)) <| o_ret (some .int)
def bX9_best_2 (cal : ab_F) : ab_K := o_aload 0 <| o_iload 1 <| o_callV cal 168 1 8 <| o_istore 3 <| o_push (.int 0) <| o_istore 4 <| o_goto 3
def bX9_best_3 (cal : ab_F) : ab_K := o_iload 4 <| o_aload 0 <| o_getf 8 0 <| o_push (.int 1) <| o_iald 0 <| o_cmp (fun x y => decide (y ≤ x)) 6 <| o_push (.int 0) <| o_istore 5 <| o_goto 4
def bX9_best_4 (cal : ab_F) : ab_K := o_iload 5 <| o_iload 1 <| o_cmp (fun x y => decide (y ≤ x)) 5 <| o_aload 0 <| o_getf 8 6 <| o_push (.int 12) <| o_iload 4 <| o_bin (fun x y => x * y) <| o_iload 5 <| o_bin (fun x y => x + y) <| o_aload 0 <| o_iload 4 <| o_iload 5 <| o_callV cal 166 2 8 <| o_iast 0 (fun x => x) <| o_iinc 5 1 <| o_goto 4
def bX9_best_5 (cal : ab_F) : ab_K := o_iinc 4 1 <| o_goto 3
def bX9_best_6 (cal : ab_F) : ab_K := o_push (.int 1) <| o_aload 0 <| o_getf 8 0 <| o_push (.int 1) <| o_iald 0 <| o_bin (fun x y => x <<< (y &&& 31)) <| o_istore 4 <| o_push (.int 0) <| o_istore 5 <| o_goto 7
def bX9_best_7 (cal : ab_F) : ab_K := o_iload 5 <| o_iload 4 <| o_cmp (fun x y => decide (y ≤ x)) 10 <| o_aload 0 <| o_getf 8 5 <| o_iload 5 <| o_iload 5 <| o_if (fun x => decide (¬ x = 0)) 8 <| o_push (.int 0) <| o_goto 9
def bX9_best_8 (cal : ab_F) : ab_K := o_push (.int (-1)) <| o_goto 9
def bX9_best_9 (cal : ab_F) : ab_K := o_iast 0 (fun x => x) <| o_iinc 5 1 <| o_goto 7
def bX9_best_10 (cal : ab_F) : ab_K := o_push (.int (-1)) <| o_istore 5 <| o_push (.int 0) <| o_istore 6 <| o_push (.int 0) <| o_istore 7 <| o_goto 11
def bX9_best_11 (cal : ab_F) : ab_K := o_iload 7 <| o_iload 4 <| o_cmp (fun x y => decide (y ≤ x)) 24 <| o_iload 1 <| o_push (.int 1) <| o_bin (fun x y => x - y) <| o_iload 7 <| o_callS cal 167 1 <| o_bin (fun x y => x - y) <| o_istore 8 <| o_push (.int 0) <| o_istore 9 <| o_goto 12
def bX9_best_12 (cal : ab_F) : ab_K := o_iload 9 <| o_aload 0 <| o_getf 8 0 <| o_push (.int 1) <| o_iald 0 <| o_cmp (fun x y => decide (y ≤ x)) 23 <| o_iload 8 <| o_if (fun x => decide (x < 0)) 23 <| o_aload 0 <| o_getf 8 5 <| o_iload 7 <| o_iald 0 <| o_if (fun x => decide (x < 0)) 23 <| o_iload 3 <| o_iload 7 <| o_push (.int (-1)) <| o_bin (fun x y => x ^^^ y) <| o_bin (fun x y => x &&& y) <| o_push (.int 1) <| o_iload 9 <| o_bin (fun x y => x <<< (y &&& 31)) <| o_bin (fun x y => x &&& y) <| o_if (fun x => decide (x = 0)) 22 <| o_aload 0 <| o_getf 8 5 <| o_iload 7 <| o_iald 0 <| o_aload 0 <| o_getf 8 6 <| o_push (.int 12) <| o_iload 9 <| o_bin (fun x y => x * y) <| o_iload 8 <| o_bin (fun x y => x + y) <| o_iald 0 <| o_bin (fun x y => x + y) <| o_istore 10 <| o_iload 7 <| o_push (.int 1) <| o_iload 9 <| o_bin (fun x y => x <<< (y &&& 31)) <| o_bin (fun x y => x ||| y) <| o_istore 11 <| o_iload 8 <| o_if (fun x => decide (¬ x = 0)) 20 <| o_iload 5 <| o_if (fun x => decide (x < 0)) 13 <| o_iload 10 <| o_iload 6 <| o_cmp (fun x y => decide (x < y)) 13 <| o_iload 10 <| o_iload 6 <| o_cmp (fun x y => decide (¬ x = y)) 14 <| o_iload 9 <| o_iload 5 <| o_cmp (fun x y => decide (y ≤ x)) 14 <| o_goto 13
def bX9_best_13 (cal : ab_F) : ab_K := o_push (.int 1) <| o_goto 15
def bX9_best_14 (cal : ab_F) : ab_K := o_push (.int 0) <| o_goto 15
def bX9_best_15 (cal : ab_F) : ab_K := o_istore 12 <| o_iload 12 <| o_if (fun x => decide (x = 0)) 16 <| o_iload 9 <| o_goto 17
def bX9_best_16 (cal : ab_F) : ab_K := o_iload 5 <| o_goto 17
def bX9_best_17 (cal : ab_F) : ab_K := o_istore 5 <| o_iload 12 <| o_if (fun x => decide (x = 0)) 18 <| o_iload 10 <| o_goto 19
def bX9_best_18 (cal : ab_F) : ab_K := o_iload 6 <| o_goto 19
def bX9_best_19 (cal : ab_F) : ab_K := o_istore 6 <| o_goto 22
def bX9_best_20 (cal : ab_F) : ab_K := o_aload 0 <| o_getf 8 5 <| o_iload 11 <| o_iald 0 <| o_if (fun x => decide (x < 0)) 21 <| o_iload 10 <| o_aload 0 <| o_getf 8 5 <| o_iload 11 <| o_iald 0 <| o_cmp (fun x y => decide (y ≤ x)) 22 <| o_goto 21
def bX9_best_21 (cal : ab_F) : ab_K := o_aload 0 <| o_getf 8 5 <| o_iload 11 <| o_iload 10 <| o_iast 0 (fun x => x) <| o_goto 22
def bX9_best_22 (cal : ab_F) : ab_K := o_iinc 9 1 <| o_goto 12
def bX9_best_23 (cal : ab_F) : ab_K := o_iinc 7 1 <| o_goto 11
def bX9_best_24 (cal : ab_F) : ab_K := o_iload 5 <| o_if (fun x => decide (0 ≤ x)) 25 <| o_push (.int (-1000000005)) <| o_goto 27
def bX9_best_25 (cal : ab_F) : ab_K := o_iload 2 <| o_if (fun x => decide (¬ x = 0)) 26 <| o_iload 6 <| o_goto 27
def bX9_best_26 (cal : ab_F) : ab_K := o_iload 5 <| o_goto 27
def bX9_best_27 (cal : ab_F) : ab_K := o_ret (some .int)
def bX9_best (cal : ab_F) : List ab_K := [bX9_best_0 cal, bX9_best_1 cal, bX9_best_2 cal, bX9_best_3 cal, bX9_best_4 cal, bX9_best_5 cal, bX9_best_6 cal, bX9_best_7 cal, bX9_best_8 cal, bX9_best_9 cal, bX9_best_10 cal, bX9_best_11 cal, bX9_best_12 cal, bX9_best_13 cal, bX9_best_14 cal, bX9_best_15 cal, bX9_best_16 cal, bX9_best_17 cal, bX9_best_18 cal, bX9_best_19 cal, bX9_best_20 cal, bX9_best_21 cal, bX9_best_22 cal, bX9_best_23 cal, bX9_best_24 cal, bX9_best_25 cal, bX9_best_26 cal, bX9_best_27 cal]
set_option maxRecDepth 100000 in
theorem sX9_best_0 {G : ab_G} {xs : List Int32} {d : Nat} {cal : ab_F} (hcs : ab_CS G (ab_Z G xs) ab_Mf cal d) : ab_Sd G (ab_Z G xs) (d + 1) (ab_mY mX9_best pX9_best) 0 (bX9_best_0 cal) :=
  sn_iload_n dX9_best_0 rfl <| sn_iconst dX9_best_1 rfl <| sn_bipush dX9_best_2 rfl <| sq_callS mt_128 hcs dX9_best_4 w_1106 w_1107 w_63 w_1108 hy_128 hm_128 <| sn_if_eq (tg := 19) dX9_best_7 rfl rfl <| sn_iload_n dX9_best_10 rfl <| sn_iconst dX9_best_11 rfl <| sn_iconst dX9_best_12 rfl <| sq_callS mt_128 hcs dX9_best_13 w_1106 w_1107 w_63 w_1108 hy_128 hm_128 <| sn_if_ne (tg := 22) dX9_best_16 rfl rfl <| sn_next rfl
set_option maxRecDepth 100000 in
theorem sX9_best_1 {G : ab_G} {xs : List Int32} {d : Nat} {cal : ab_F} (hcs : ab_CS G (ab_Z G xs) ab_Mf cal d) : ab_Sd G (ab_Z G xs) (d + 1) (ab_mY mX9_best pX9_best) 19 (bX9_best_1 cal) :=
  sn_ldc dX9_best_19 w_1109 <| sn_ret dX9_best_21 ab_ri_int
set_option maxRecDepth 100000 in
theorem sX9_best_2 {G : ab_G} {xs : List Int32} {d : Nat} {cal : ab_F} (hcs : ab_CS G (ab_Z G xs) ab_Mf cal d) : ab_Sd G (ab_Z G xs) (d + 1) (ab_mY mX9_best pX9_best) 22 (bX9_best_2 cal) :=
  sn_aload_n dX9_best_22 rfl <| sn_iload_n dX9_best_23 rfl <| sq_callV mt_168 hcs dX9_best_24 rfl w_1265 w_1267 w_35 w_63 w_1268 hy_168 hm_168 <| sn_istore_n dX9_best_27 rfl (by decide) <| sn_iconst dX9_best_28 rfl <| sn_istore dX9_best_29 (by decide) <| sn_next rfl
set_option maxRecDepth 100000 in
theorem sX9_best_3 {G : ab_G} {xs : List Int32} {d : Nat} {cal : ab_F} (hcs : ab_CS G (ab_Z G xs) ab_Mf cal d) : ab_Sd G (ab_Z G xs) (d + 1) (ab_mY mX9_best pX9_best) 31 (bX9_best_3 cal) :=
  sn_iload dX9_best_31 <| sn_aload_n dX9_best_33 rfl <| sn_getf dX9_best_34 rfl hinX9 (by decide) w_991 <| sn_iconst dX9_best_37 rfl <| sn_iald dX9_best_38 rfl <| sn_cmp_ge (tg := 84) dX9_best_39 rfl rfl <| sn_iconst dX9_best_42 rfl <| sn_istore dX9_best_43 (by decide) <| sn_next rfl
set_option maxRecDepth 100000 in
theorem sX9_best_4 {G : ab_G} {xs : List Int32} {d : Nat} {cal : ab_F} (hcs : ab_CS G (ab_Z G xs) ab_Mf cal d) : ab_Sd G (ab_Z G xs) (d + 1) (ab_mY mX9_best pX9_best) 45 (bX9_best_4 cal) :=
  sn_iload dX9_best_45 <| sn_iload_n dX9_best_47 rfl <| sn_cmp_ge (tg := 78) dX9_best_48 rfl rfl <| sn_aload_n dX9_best_51 rfl <| sn_getf dX9_best_52 rfl hinX9 (by decide) w_997 <| sn_bipush dX9_best_55 rfl <| sn_iload dX9_best_57 <| sn_imul dX9_best_59 <| sn_iload dX9_best_60 <| sn_iadd dX9_best_62 <| sn_aload_n dX9_best_63 rfl <| sn_iload dX9_best_64 <| sn_iload dX9_best_66 <| sq_callV mt_166 hcs dX9_best_68 rfl w_1269 w_1271 w_36 w_63 w_1272 hy_166 hm_166 <| sn_iast dX9_best_71 rfl rfl <| sn_iinc dX9_best_72 rfl (by decide) <| sn_goto (tg := 45) dX9_best_75 rfl rfl
set_option maxRecDepth 100000 in
theorem sX9_best_5 {G : ab_G} {xs : List Int32} {d : Nat} {cal : ab_F} (hcs : ab_CS G (ab_Z G xs) ab_Mf cal d) : ab_Sd G (ab_Z G xs) (d + 1) (ab_mY mX9_best pX9_best) 78 (bX9_best_5 cal) :=
  sn_iinc dX9_best_78 rfl (by decide) <| sn_goto (tg := 31) dX9_best_81 rfl rfl
set_option maxRecDepth 100000 in
theorem sX9_best_6 {G : ab_G} {xs : List Int32} {d : Nat} {cal : ab_F} (hcs : ab_CS G (ab_Z G xs) ab_Mf cal d) : ab_Sd G (ab_Z G xs) (d + 1) (ab_mY mX9_best pX9_best) 84 (bX9_best_6 cal) :=
  sn_iconst dX9_best_84 rfl <| sn_aload_n dX9_best_85 rfl <| sn_getf dX9_best_86 rfl hinX9 (by decide) w_991 <| sn_iconst dX9_best_89 rfl <| sn_iald dX9_best_90 rfl <| sn_ishl dX9_best_91 <| sn_istore dX9_best_92 (by decide) <| sn_iconst dX9_best_94 rfl <| sn_istore dX9_best_95 (by decide) <| sn_next rfl
set_option maxRecDepth 100000 in
theorem sX9_best_7 {G : ab_G} {xs : List Int32} {d : Nat} {cal : ab_F} (hcs : ab_CS G (ab_Z G xs) ab_Mf cal d) : ab_Sd G (ab_Z G xs) (d + 1) (ab_mY mX9_best pX9_best) 97 (bX9_best_7 cal) :=
  sn_iload dX9_best_97 <| sn_iload dX9_best_99 <| sn_cmp_ge (tg := 127) dX9_best_101 rfl rfl <| sn_aload_n dX9_best_104 rfl <| sn_getf dX9_best_105 rfl hinX9 (by decide) w_996 <| sn_iload dX9_best_108 <| sn_iload dX9_best_110 <| sn_if_ne (tg := 119) dX9_best_112 rfl rfl <| sn_iconst dX9_best_115 rfl <| sn_goto (tg := 120) dX9_best_116 rfl rfl
set_option maxRecDepth 100000 in
theorem sX9_best_8 {G : ab_G} {xs : List Int32} {d : Nat} {cal : ab_F} (hcs : ab_CS G (ab_Z G xs) ab_Mf cal d) : ab_Sd G (ab_Z G xs) (d + 1) (ab_mY mX9_best pX9_best) 119 (bX9_best_8 cal) :=
  sn_iconst dX9_best_119 rfl <| sn_next rfl
set_option maxRecDepth 100000 in
theorem sX9_best_9 {G : ab_G} {xs : List Int32} {d : Nat} {cal : ab_F} (hcs : ab_CS G (ab_Z G xs) ab_Mf cal d) : ab_Sd G (ab_Z G xs) (d + 1) (ab_mY mX9_best pX9_best) 120 (bX9_best_9 cal) :=
  sn_iast dX9_best_120 rfl rfl <| sn_iinc dX9_best_121 rfl (by decide) <| sn_goto (tg := 97) dX9_best_124 rfl rfl
set_option maxRecDepth 100000 in
theorem sX9_best_10 {G : ab_G} {xs : List Int32} {d : Nat} {cal : ab_F} (hcs : ab_CS G (ab_Z G xs) ab_Mf cal d) : ab_Sd G (ab_Z G xs) (d + 1) (ab_mY mX9_best pX9_best) 127 (bX9_best_10 cal) :=
  sn_iconst dX9_best_127 rfl <| sn_istore dX9_best_128 (by decide) <| sn_iconst dX9_best_130 rfl <| sn_istore dX9_best_131 (by decide) <| sn_iconst dX9_best_133 rfl <| sn_istore dX9_best_134 (by decide) <| sn_next rfl
set_option maxRecDepth 100000 in
theorem sX9_best_11 {G : ab_G} {xs : List Int32} {d : Nat} {cal : ab_F} (hcs : ab_CS G (ab_Z G xs) ab_Mf cal d) : ab_Sd G (ab_Z G xs) (d + 1) (ab_mY mX9_best pX9_best) 136 (bX9_best_11 cal) :=
  sn_iload dX9_best_136 <| sn_iload dX9_best_138 <| sn_cmp_ge (tg := 341) dX9_best_140 rfl rfl <| sn_iload_n dX9_best_143 rfl <| sn_iconst dX9_best_144 rfl <| sn_isub dX9_best_145 <| sn_iload dX9_best_146 <| sq_callS mt_167 hcs dX9_best_148 w_1273 w_1274 w_63 w_1275 hy_167 hm_167 <| sn_isub dX9_best_151 <| sn_istore dX9_best_152 (by decide) <| sn_iconst dX9_best_154 rfl <| sn_istore dX9_best_155 (by decide) <| sn_next rfl
set_option maxRecDepth 100000 in
theorem sX9_best_12 {G : ab_G} {xs : List Int32} {d : Nat} {cal : ab_F} (hcs : ab_CS G (ab_Z G xs) ab_Mf cal d) : ab_Sd G (ab_Z G xs) (d + 1) (ab_mY mX9_best pX9_best) 157 (bX9_best_12 cal) :=
  sn_iload dX9_best_157 <| sn_aload_n dX9_best_159 rfl <| sn_getf dX9_best_160 rfl hinX9 (by decide) w_991 <| sn_iconst dX9_best_163 rfl <| sn_iald dX9_best_164 rfl <| sn_cmp_ge (tg := 335) dX9_best_165 rfl rfl <| sn_iload dX9_best_168 <| sn_if_lt (tg := 335) dX9_best_170 rfl rfl <| sn_aload_n dX9_best_173 rfl <| sn_getf dX9_best_174 rfl hinX9 (by decide) w_996 <| sn_iload dX9_best_177 <| sn_iald dX9_best_179 rfl <| sn_if_lt (tg := 335) dX9_best_180 rfl rfl <| sn_iload_n dX9_best_183 rfl <| sn_iload dX9_best_184 <| sn_iconst dX9_best_186 rfl <| sn_ixor dX9_best_187 <| sn_iand dX9_best_188 <| sn_iconst dX9_best_189 rfl <| sn_iload dX9_best_190 <| sn_ishl dX9_best_192 <| sn_iand dX9_best_193 <| sn_if_eq (tg := 329) dX9_best_194 rfl rfl <| sn_aload_n dX9_best_197 rfl <| sn_getf dX9_best_198 rfl hinX9 (by decide) w_996 <| sn_iload dX9_best_201 <| sn_iald dX9_best_203 rfl <| sn_aload_n dX9_best_204 rfl <| sn_getf dX9_best_205 rfl hinX9 (by decide) w_997 <| sn_bipush dX9_best_208 rfl <| sn_iload dX9_best_210 <| sn_imul dX9_best_212 <| sn_iload dX9_best_213 <| sn_iadd dX9_best_215 <| sn_iald dX9_best_216 rfl <| sn_iadd dX9_best_217 <| sn_istore dX9_best_218 (by decide) <| sn_iload dX9_best_220 <| sn_iconst dX9_best_222 rfl <| sn_iload dX9_best_223 <| sn_ishl dX9_best_225 <| sn_ior dX9_best_226 <| sn_istore dX9_best_227 (by decide) <| sn_iload dX9_best_229 <| sn_if_ne (tg := 298) dX9_best_231 rfl rfl <| sn_iload dX9_best_234 <| sn_if_lt (tg := 260) dX9_best_236 rfl rfl <| sn_iload dX9_best_239 <| sn_iload dX9_best_241 <| sn_cmp_lt (tg := 260) dX9_best_243 rfl rfl <| sn_iload dX9_best_246 <| sn_iload dX9_best_248 <| sn_cmp_ne (tg := 264) dX9_best_250 rfl rfl <| sn_iload dX9_best_253 <| sn_iload dX9_best_255 <| sn_cmp_ge (tg := 264) dX9_best_257 rfl rfl <| sn_next rfl
set_option maxRecDepth 100000 in
theorem sX9_best_13 {G : ab_G} {xs : List Int32} {d : Nat} {cal : ab_F} (hcs : ab_CS G (ab_Z G xs) ab_Mf cal d) : ab_Sd G (ab_Z G xs) (d + 1) (ab_mY mX9_best pX9_best) 260 (bX9_best_13 cal) :=
  sn_iconst dX9_best_260 rfl <| sn_goto (tg := 265) dX9_best_261 rfl rfl
set_option maxRecDepth 100000 in
theorem sX9_best_14 {G : ab_G} {xs : List Int32} {d : Nat} {cal : ab_F} (hcs : ab_CS G (ab_Z G xs) ab_Mf cal d) : ab_Sd G (ab_Z G xs) (d + 1) (ab_mY mX9_best pX9_best) 264 (bX9_best_14 cal) :=
  sn_iconst dX9_best_264 rfl <| sn_next rfl
set_option maxRecDepth 100000 in
theorem sX9_best_15 {G : ab_G} {xs : List Int32} {d : Nat} {cal : ab_F} (hcs : ab_CS G (ab_Z G xs) ab_Mf cal d) : ab_Sd G (ab_Z G xs) (d + 1) (ab_mY mX9_best pX9_best) 265 (bX9_best_15 cal) :=
  sn_istore dX9_best_265 (by decide) <| sn_iload dX9_best_267 <| sn_if_eq (tg := 277) dX9_best_269 rfl rfl <| sn_iload dX9_best_272 <| sn_goto (tg := 279) dX9_best_274 rfl rfl
set_option maxRecDepth 100000 in
theorem sX9_best_16 {G : ab_G} {xs : List Int32} {d : Nat} {cal : ab_F} (hcs : ab_CS G (ab_Z G xs) ab_Mf cal d) : ab_Sd G (ab_Z G xs) (d + 1) (ab_mY mX9_best pX9_best) 277 (bX9_best_16 cal) :=
  sn_iload dX9_best_277 <| sn_next rfl
set_option maxRecDepth 100000 in
theorem sX9_best_17 {G : ab_G} {xs : List Int32} {d : Nat} {cal : ab_F} (hcs : ab_CS G (ab_Z G xs) ab_Mf cal d) : ab_Sd G (ab_Z G xs) (d + 1) (ab_mY mX9_best pX9_best) 279 (bX9_best_17 cal) :=
  sn_istore dX9_best_279 (by decide) <| sn_iload dX9_best_281 <| sn_if_eq (tg := 291) dX9_best_283 rfl rfl <| sn_iload dX9_best_286 <| sn_goto (tg := 293) dX9_best_288 rfl rfl
set_option maxRecDepth 100000 in
theorem sX9_best_18 {G : ab_G} {xs : List Int32} {d : Nat} {cal : ab_F} (hcs : ab_CS G (ab_Z G xs) ab_Mf cal d) : ab_Sd G (ab_Z G xs) (d + 1) (ab_mY mX9_best pX9_best) 291 (bX9_best_18 cal) :=
  sn_iload dX9_best_291 <| sn_next rfl
set_option maxRecDepth 100000 in
theorem sX9_best_19 {G : ab_G} {xs : List Int32} {d : Nat} {cal : ab_F} (hcs : ab_CS G (ab_Z G xs) ab_Mf cal d) : ab_Sd G (ab_Z G xs) (d + 1) (ab_mY mX9_best pX9_best) 293 (bX9_best_19 cal) :=
  sn_istore dX9_best_293 (by decide) <| sn_goto (tg := 329) dX9_best_295 rfl rfl
set_option maxRecDepth 100000 in
theorem sX9_best_20 {G : ab_G} {xs : List Int32} {d : Nat} {cal : ab_F} (hcs : ab_CS G (ab_Z G xs) ab_Mf cal d) : ab_Sd G (ab_Z G xs) (d + 1) (ab_mY mX9_best pX9_best) 298 (bX9_best_20 cal) :=
  sn_aload_n dX9_best_298 rfl <| sn_getf dX9_best_299 rfl hinX9 (by decide) w_996 <| sn_iload dX9_best_302 <| sn_iald dX9_best_304 rfl <| sn_if_lt (tg := 320) dX9_best_305 rfl rfl <| sn_iload dX9_best_308 <| sn_aload_n dX9_best_310 rfl <| sn_getf dX9_best_311 rfl hinX9 (by decide) w_996 <| sn_iload dX9_best_314 <| sn_iald dX9_best_316 rfl <| sn_cmp_ge (tg := 329) dX9_best_317 rfl rfl <| sn_next rfl
set_option maxRecDepth 100000 in
theorem sX9_best_21 {G : ab_G} {xs : List Int32} {d : Nat} {cal : ab_F} (hcs : ab_CS G (ab_Z G xs) ab_Mf cal d) : ab_Sd G (ab_Z G xs) (d + 1) (ab_mY mX9_best pX9_best) 320 (bX9_best_21 cal) :=
  sn_aload_n dX9_best_320 rfl <| sn_getf dX9_best_321 rfl hinX9 (by decide) w_996 <| sn_iload dX9_best_324 <| sn_iload dX9_best_326 <| sn_iast dX9_best_328 rfl rfl <| sn_next rfl
set_option maxRecDepth 100000 in
theorem sX9_best_22 {G : ab_G} {xs : List Int32} {d : Nat} {cal : ab_F} (hcs : ab_CS G (ab_Z G xs) ab_Mf cal d) : ab_Sd G (ab_Z G xs) (d + 1) (ab_mY mX9_best pX9_best) 329 (bX9_best_22 cal) :=
  sn_iinc dX9_best_329 rfl (by decide) <| sn_goto (tg := 157) dX9_best_332 rfl rfl
set_option maxRecDepth 100000 in
theorem sX9_best_23 {G : ab_G} {xs : List Int32} {d : Nat} {cal : ab_F} (hcs : ab_CS G (ab_Z G xs) ab_Mf cal d) : ab_Sd G (ab_Z G xs) (d + 1) (ab_mY mX9_best pX9_best) 335 (bX9_best_23 cal) :=
  sn_iinc dX9_best_335 rfl (by decide) <| sn_goto (tg := 136) dX9_best_338 rfl rfl
set_option maxRecDepth 100000 in
theorem sX9_best_24 {G : ab_G} {xs : List Int32} {d : Nat} {cal : ab_F} (hcs : ab_CS G (ab_Z G xs) ab_Mf cal d) : ab_Sd G (ab_Z G xs) (d + 1) (ab_mY mX9_best pX9_best) 341 (bX9_best_24 cal) :=
  sn_iload dX9_best_341 <| sn_if_ge (tg := 351) dX9_best_343 rfl rfl <| sn_ldc dX9_best_346 w_1260 <| sn_goto (tg := 362) dX9_best_348 rfl rfl
set_option maxRecDepth 100000 in
theorem sX9_best_25 {G : ab_G} {xs : List Int32} {d : Nat} {cal : ab_F} (hcs : ab_CS G (ab_Z G xs) ab_Mf cal d) : ab_Sd G (ab_Z G xs) (d + 1) (ab_mY mX9_best pX9_best) 351 (bX9_best_25 cal) :=
  sn_iload_n dX9_best_351 rfl <| sn_if_ne (tg := 360) dX9_best_352 rfl rfl <| sn_iload dX9_best_355 <| sn_goto (tg := 362) dX9_best_357 rfl rfl
set_option maxRecDepth 100000 in
theorem sX9_best_26 {G : ab_G} {xs : List Int32} {d : Nat} {cal : ab_F} (hcs : ab_CS G (ab_Z G xs) ab_Mf cal d) : ab_Sd G (ab_Z G xs) (d + 1) (ab_mY mX9_best pX9_best) 360 (bX9_best_26 cal) :=
  sn_iload dX9_best_360 <| sn_next rfl
set_option maxRecDepth 100000 in
theorem sX9_best_27 {G : ab_G} {xs : List Int32} {d : Nat} {cal : ab_F} (hcs : ab_CS G (ab_Z G xs) ab_Mf cal d) : ab_Sd G (ab_Z G xs) (d + 1) (ab_mY mX9_best pX9_best) 362 (bX9_best_27 cal) :=
  sn_ret dX9_best_362 ab_ri_int
theorem sX9_best {G : ab_G} {xs : List Int32} {d : Nat} {cal : ab_F} (hcs : ab_CS G (ab_Z G xs) ab_Mf cal d) : ab_BS G (ab_Z G xs) (d + 1) (ab_mY mX9_best pX9_best) pX9_best (bX9_best cal) := ⟨sX9_best_0 hcs, sX9_best_1 hcs, sX9_best_2 hcs, sX9_best_3 hcs, sX9_best_4 hcs, sX9_best_5 hcs, sX9_best_6 hcs, sX9_best_7 hcs, sX9_best_8 hcs, sX9_best_9 hcs, sX9_best_10 hcs, sX9_best_11 hcs, sX9_best_12 hcs, sX9_best_13 hcs, sX9_best_14 hcs, sX9_best_15 hcs, sX9_best_16 hcs, sX9_best_17 hcs, sX9_best_18 hcs, sX9_best_19 hcs, sX9_best_20 hcs, sX9_best_21 hcs, sX9_best_22 hcs, sX9_best_23 hcs, sX9_best_24 hcs, sX9_best_25 hcs, sX9_best_26 hcs, sX9_best_27 hcs, trivial⟩
