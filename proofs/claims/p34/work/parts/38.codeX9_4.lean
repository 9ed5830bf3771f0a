theorem dgX9_textTold_0 : decode cX9_textTold 0 = .ok (.iload_n 1, 1) ∧ decode cX9_textTold 1 = .ok (.iconst 0, 1) ∧ decode cX9_textTold 2 = .ok (.aload_n 0, 1) ∧ decode cX9_textTold 3 = .ok (.getfield 9, 3) ∧ decode cX9_textTold 6 = .ok (.iconst 4, 1) ∧ decode cX9_textTold 7 = .ok (.iaload, 1) ∧ decode cX9_textTold 8 = .ok (.iconst 1, 1) ∧ decode cX9_textTold 9 = .ok (.isub, 1) ∧ decode cX9_textTold 10 = .ok (.invokestatic 86, 3) ∧ decode cX9_textTold 13 = .ok (.ifCond .eq 12, 3) ∧ decode cX9_textTold 16 = .ok (.iload_n 2, 1) ∧ decode cX9_textTold 17 = .ok (.iconst 0, 1) ∧ decode cX9_textTold 18 = .ok (.iconst 1, 1) ∧ decode cX9_textTold 19 = .ok (.invokestatic 86, 3) ∧ decode cX9_textTold 22 = .ok (.ifCond .ne 6, 3) ∧ decode cX9_textTold 25 = .ok (.ldc 90, 2) := by decide +kernel
theorem dX9_textTold_0 : decode cX9_textTold 0 = .ok (.iload_n 1, 1) := dgX9_textTold_0.1
theorem dX9_textTold_1 : decode cX9_textTold 1 = .ok (.iconst 0, 1) := dgX9_textTold_0.2.1
theorem dX9_textTold_2 : decode cX9_textTold 2 = .ok (.aload_n 0, 1) := dgX9_textTold_0.2.2.1
theorem dX9_textTold_3 : decode cX9_textTold 3 = .ok (.getfield 9, 3) := dgX9_textTold_0.2.2.2.1
theorem dX9_textTold_6 : decode cX9_textTold 6 = .ok (.iconst 4, 1) := dgX9_textTold_0.2.2.2.2.1
theorem dX9_textTold_7 : decode cX9_textTold 7 = .ok (.iaload, 1) := dgX9_textTold_0.2.2.2.2.2.1
theorem dX9_textTold_8 : decode cX9_textTold 8 = .ok (.iconst 1, 1) := dgX9_textTold_0.2.2.2.2.2.2.1
theorem dX9_textTold_9 : decode cX9_textTold 9 = .ok (.isub, 1) := dgX9_textTold_0.2.2.2.2.2.2.2.1
theorem dX9_textTold_10 : decode cX9_textTold 10 = .ok (.invokestatic 86, 3) := dgX9_textTold_0.2.2.2.2.2.2.2.2.1
theorem dX9_textTold_13 : decode cX9_textTold 13 = .ok (.ifCond .eq 12, 3) := dgX9_textTold_0.2.2.2.2.2.2.2.2.2.1
theorem dX9_textTold_16 : decode cX9_textTold 16 = .ok (.iload_n 2, 1) := dgX9_textTold_0.2.2.2.2.2.2.2.2.2.2.1
theorem dX9_textTold_17 : decode cX9_textTold 17 = .ok (.iconst 0, 1) := dgX9_textTold_0.2.2.2.2.2.2.2.2.2.2.2.1
theorem dX9_textTold_18 : decode cX9_textTold 18 = .ok (.iconst 1, 1) := dgX9_textTold_0.2.2.2.2.2.2.2.2.2.2.2.2.1
theorem dX9_textTold_19 : decode cX9_textTold 19 = .ok (.invokestatic 86, 3) := dgX9_textTold_0.2.2.2.2.2.2.2.2.2.2.2.2.2.1
theorem dX9_textTold_22 : decode cX9_textTold 22 = .ok (.ifCond .ne 6, 3) := dgX9_textTold_0.2.2.2.2.2.2.2.2.2.2.2.2.2.2.1
theorem dX9_textTold_25 : decode cX9_textTold 25 = .ok (.ldc 90, 2) := dgX9_textTold_0.2.2.2.2.2.2.2.2.2.2.2.2.2.2.2
theorem dgX9_textTold_1 : decode cX9_textTold 27 = .ok (.ireturn, 1) ∧ decode cX9_textTold 28 = .ok (.iload_n 2, 1) ∧ decode cX9_textTold 29 = .ok (.ifCond .ne 21, 3) ∧ decode cX9_textTold 32 = .ok (.aload_n 0, 1) ∧ decode cX9_textTold 33 = .ok (.getfield 9, 3) ∧ decode cX9_textTold 36 = .ok (.bipush 89, 2) ∧ decode cX9_textTold 38 = .ok (.iconst 2, 1) ∧ decode cX9_textTold 39 = .ok (.iload_n 1, 1) ∧ decode cX9_textTold 40 = .ok (.imul, 1) ∧ decode cX9_textTold 41 = .ok (.iadd, 1) ∧ decode cX9_textTold 42 = .ok (.iaload, 1) ∧ decode cX9_textTold 43 = .ok (.sipush 1000, 3) ∧ decode cX9_textTold 46 = .ok (.idiv, 1) ∧ decode cX9_textTold 47 = .ok (.goto 16, 3) ∧ decode cX9_textTold 50 = .ok (.aload_n 0, 1) ∧ decode cX9_textTold 51 = .ok (.getfield 9, 3) := by decide +kernel
theorem dX9_textTold_27 : decode cX9_textTold 27 = .ok (.ireturn, 1) := dgX9_textTold_1.1
theorem dX9_textTold_28 : decode cX9_textTold 28 = .ok (.iload_n 2, 1) := dgX9_textTold_1.2.1
theorem dX9_textTold_29 : decode cX9_textTold 29 = .ok (.ifCond .ne 21, 3) := dgX9_textTold_1.2.2.1
theorem dX9_textTold_32 : decode cX9_textTold 32 = .ok (.aload_n 0, 1) := dgX9_textTold_1.2.2.2.1
theorem dX9_textTold_33 : decode cX9_textTold 33 = .ok (.getfield 9, 3) := dgX9_textTold_1.2.2.2.2.1
theorem dX9_textTold_36 : decode cX9_textTold 36 = .ok (.bipush 89, 2) := dgX9_textTold_1.2.2.2.2.2.1
theorem dX9_textTold_38 : decode cX9_textTold 38 = .ok (.iconst 2, 1) := dgX9_textTold_1.2.2.2.2.2.2.1
theorem dX9_textTold_39 : decode cX9_textTold 39 = .ok (.iload_n 1, 1) := dgX9_textTold_1.2.2.2.2.2.2.2.1
theorem dX9_textTold_40 : decode cX9_textTold 40 = .ok (.imul, 1) := dgX9_textTold_1.2.2.2.2.2.2.2.2.1
theorem dX9_textTold_41 : decode cX9_textTold 41 = .ok (.iadd, 1) := dgX9_textTold_1.2.2.2.2.2.2.2.2.2.1
theorem dX9_textTold_42 : decode cX9_textTold 42 = .ok (.iaload, 1) := dgX9_textTold_1.2.2.2.2.2.2.2.2.2.2.1
theorem dX9_textTold_43 : decode cX9_textTold 43 = .ok (.sipush 1000, 3) := dgX9_textTold_1.2.2.2.2.2.2.2.2.2.2.2.1
theorem dX9_textTold_46 : decode cX9_textTold 46 = .ok (.idiv, 1) := dgX9_textTold_1.2.2.2.2.2.2.2.2.2.2.2.2.1
theorem dX9_textTold_47 : decode cX9_textTold 47 = .ok (.goto 16, 3) := dgX9_textTold_1.2.2.2.2.2.2.2.2.2.2.2.2.2.1
theorem dX9_textTold_50 : decode cX9_textTold 50 = .ok (.aload_n 0, 1) := dgX9_textTold_1.2.2.2.2.2.2.2.2.2.2.2.2.2.2.1
theorem dX9_textTold_51 : decode cX9_textTold 51 = .ok (.getfield 9, 3) := dgX9_textTold_1.2.2.2.2.2.2.2.2.2.2.2.2.2.2.2
theorem dgX9_textTold_2 : decode cX9_textTold 54 = .ok (.bipush 89, 2) ∧ decode cX9_textTold 56 = .ok (.iconst 2, 1) ∧ decode cX9_textTold 57 = .ok (.iload_n 1, 1) ∧ decode cX9_textTold 58 = .ok (.imul, 1) ∧ decode cX9_textTold 59 = .ok (.iadd, 1) ∧ decode cX9_textTold 60 = .ok (.iconst 1, 1) ∧ decode cX9_textTold 61 = .ok (.iadd, 1) ∧ decode cX9_textTold 62 = .ok (.iaload, 1) ∧ decode cX9_textTold 63 = .ok (.ireturn, 1) := by decide +kernel
theorem dX9_textTold_54 : decode cX9_textTold 54 = .ok (.bipush 89, 2) := dgX9_textTold_2.1
theorem dX9_textTold_56 : decode cX9_textTold 56 = .ok (.iconst 2, 1) := dgX9_textTold_2.2.1
theorem dX9_textTold_57 : decode cX9_textTold 57 = .ok (.iload_n 1, 1) := dgX9_textTold_2.2.2.1
theorem dX9_textTold_58 : decode cX9_textTold 58 = .ok (.imul, 1) := dgX9_textTold_2.2.2.2.1
theorem dX9_textTold_59 : decode cX9_textTold 59 = .ok (.iadd, 1) := dgX9_textTold_2.2.2.2.2.1
theorem dX9_textTold_60 : decode cX9_textTold 60 = .ok (.iconst 1, 1) := dgX9_textTold_2.2.2.2.2.2.1
theorem dX9_textTold_61 : decode cX9_textTold 61 = .ok (.iadd, 1) := dgX9_textTold_2.2.2.2.2.2.2.1
theorem dX9_textTold_62 : decode cX9_textTold 62 = .ok (.iaload, 1) := dgX9_textTold_2.2.2.2.2.2.2.2.1
theorem dX9_textTold_63 : decode cX9_textTold 63 = .ok (.ireturn, 1) := dgX9_textTold_2.2.2.2.2.2.2.2.2
abbrev pX9_textTold : List Nat := [0, 25, 28, 50, 63]
def bX9_textTold_0 (cal : ab_F) : ab_K := o_iload 1 <| o_push (.int 0) <| o_aload 0 <| o_getf 8 0 <| o_push (.int 4) <| o_iald 0 <| o_push (.int 1) <| o_bin (fun x y => x - y) <| o_callS cal 128 3 <| o_if (fun x => decide (x = 0)) 1 <| o_iload 2 <| o_push (.int 0) <| o_push (.int 1) <| o_callS cal 128 3 <| o_if (fun x => decide (¬ x = 0)) 2 <| o_goto 1
def bX9_textTold_1 (cal : ab_F) : ab_K := o_push (.int (-1000000001)) <| o_ret (some .int)
def bX9_textTold_2 (cal : ab_F) : ab_K := o_iload 2 <| o_if (fun x => decide (¬ x = 0)) 3 <| o_aload 0 <| o_getf 8 0 <| o_push (.int 89) <| o_push (.int 2) <| o_iload 1 <| o_bin (fun x y => x * y) <| o_bin (fun x y => x + y) <| o_iald 0 <| o_push (.int 1000) <| o_div (fun x y => x / y) <| o_goto 4
def bX9_textTold_3 (cal : ab_F) : ab_K := o_aload 0 <| o_getf 8 0 <| o_push (.int 89) <| o_push (.int 2) <| o_iload 1 <| o_bin (fun x y => x * y) <| o_bin (fun x y => x + y) <| o_push (.int 1) <| o_bin (fun x y => x + y) <| o_iald 0 <| o_goto 4
def bX9_textTold_4 (cal : ab_F) : ab_K := o_ret (some .int)
def bX9_textTold (cal : ab_F) : List ab_K := [bX9_textTold_0 cal, bX9_textTold_1 cal, bX9_textTold_2 cal, bX9_textTold_3 cal, bX9_textTold_4 cal]
set_option maxRecDepth 100000 in
theorem sX9_textTold_0 {G : ab_G} {xs : List Int32} {d : Nat} {cal : ab_F} (hcs : ab_CS G (ab_Z G xs) ab_Mf cal d) : ab_Sd G (ab_Z G xs) (d + 1) (ab_mY mX9_textTold pX9_textTold) 0 (bX9_textTold_0 cal) :=
  sn_iload_n dX9_textTold_0 rfl <| sn_iconst dX9_textTold_1 rfl <| sn_aload_n dX9_textTold_2 rfl <| sn_getf dX9_textTold_3 rfl hinX9 (by decide) w_991 <| sn_iconst dX9_textTold_6 rfl <| sn_iald dX9_textTold_7 rfl <| sn_iconst dX9_textTold_8 rfl <| sn_isub dX9_textTold_9 <| sq_callS mt_128 hcs dX9_textTold_10 w_1106 w_1107 w_63 w_1108 hy_128 hm_128 <| sn_if_eq (tg := 25) dX9_textTold_13 rfl rfl <| sn_iload_n dX9_textTold_16 rfl <| sn_iconst dX9_textTold_17 rfl <| sn_iconst dX9_textTold_18 rfl <| sq_callS mt_128 hcs dX9_textTold_19 w_1106 w_1107 w_63 w_1108 hy_128 hm_128 <| sn_if_ne (tg := 28) dX9_textTold_22 rfl rfl <| sn_next rfl
set_option maxRecDepth 100000 in
theorem sX9_textTold_1 {G : ab_G} {xs : List Int32} {d : Nat} {cal : ab_F} (hcs : ab_CS G (ab_Z G xs) ab_Mf cal d) : ab_Sd G (ab_Z G xs) (d + 1) (ab_mY mX9_textTold pX9_textTold) 25 (bX9_textTold_1 cal) :=
  sn_ldc dX9_textTold_25 w_1109 <| sn_ret dX9_textTold_27 ab_ri_int
set_option maxRecDepth 100000 in
theorem sX9_textTold_2 {G : ab_G} {xs : List Int32} {d : Nat} {cal : ab_F} (hcs : ab_CS G (ab_Z G xs) ab_Mf cal d) : ab_Sd G (ab_Z G xs) (d + 1) (ab_mY mX9_textTold pX9_textTold) 28 (bX9_textTold_2 cal) :=
  sn_iload_n dX9_textTold_28 rfl <| sn_if_ne (tg := 50) dX9_textTold_29 rfl rfl <| sn_aload_n dX9_textTold_32 rfl <| sn_getf dX9_textTold_33 rfl hinX9 (by decide) w_991 <| sn_bipush dX9_textTold_36 rfl <| sn_iconst dX9_textTold_38 rfl <| sn_iload_n dX9_textTold_39 rfl <| sn_imul dX9_textTold_40 <| sn_iadd dX9_textTold_41 <| sn_iald dX9_textTold_42 rfl <| sn_sipush dX9_textTold_43 rfl <| sn_idiv dX9_textTold_46 <| sn_goto (tg := 63) dX9_textTold_47 rfl rfl
set_option maxRecDepth 100000 in
theorem sX9_textTold_3 {G : ab_G} {xs : List Int32} {d : Nat} {cal : ab_F} (hcs : ab_CS G (ab_Z G xs) ab_Mf cal d) : ab_Sd G (ab_Z G xs) (d + 1) (ab_mY mX9_textTold pX9_textTold) 50 (bX9_textTold_3 cal) :=
  sn_aload_n dX9_textTold_50 rfl <| sn_getf dX9_textTold_51 rfl hinX9 (by decide) w_991 <| sn_bipush dX9_textTold_54 rfl <| sn_iconst dX9_textTold_56 rfl <| sn_iload_n dX9_textTold_57 rfl <| sn_imul dX9_textTold_58 <| sn_iadd dX9_textTold_59 <| sn_iconst dX9_textTold_60 rfl <| sn_iadd dX9_textTold_61 <| sn_iald dX9_textTold_62 rfl <| sn_next rfl
set_option maxRecDepth 100000 in
theorem sX9_textTold_4 {G : ab_G} {xs : List Int32} {d : Nat} {cal : ab_F} (hcs : ab_CS G (ab_Z G xs) ab_Mf cal d) : ab_Sd G (ab_Z G xs) (d + 1) (ab_mY mX9_textTold pX9_textTold) 63 (bX9_textTold_4 cal) :=
  sn_ret dX9_textTold_63 ab_ri_int
theorem sX9_textTold {G : ab_G} {xs : List Int32} {d : Nat} {cal : ab_F} (hcs : ab_CS G (ab_Z G xs) ab_Mf cal d) : ab_BS G (ab_Z G xs) (d + 1) (ab_mY mX9_textTold pX9_textTold) pX9_textTold (bX9_textTold cal) := ⟨sX9_textTold_0 hcs, sX9_textTold_1 hcs, sX9_textTold_2 hcs, sX9_textTold_3 hcs, sX9_textTold_4 hcs, trivial⟩
theorem dgX9_counts_0 : decode cX9_counts 0 = .ok (.aload_n 0, 1) ∧ decode cX9_counts 1 = .ok (.getfield 9, 3) ∧ decode cX9_counts 4 = .ok (.iconst 4, 1) ∧ decode cX9_counts 5 = .ok (.iaload, 1) ∧ decode cX9_counts 6 = .ok (.iconst 1, 1) ∧ decode cX9_counts 7 = .ok (.isub, 1) ∧ decode cX9_counts 8 = .ok (.istore_n 2, 1) ∧ decode cX9_counts 9 = .ok (.iload_n 2, 1) ∧ decode cX9_counts 10 = .ok (.ifCond .lt 30, 3) ∧ decode cX9_counts 13 = .ok (.aload_n 0, 1) ∧ decode cX9_counts 14 = .ok (.getfield 9, 3) ∧ decode cX9_counts 17 = .ok (.bipush 89, 2) ∧ decode cX9_counts 19 = .ok (.iconst 2, 1) ∧ decode cX9_counts 20 = .ok (.iload_n 2, 1) ∧ decode cX9_counts 21 = .ok (.imul, 1) ∧ decode cX9_counts 22 = .ok (.iadd, 1) := by decide +kernel
theorem dX9_counts_0 : decode cX9_counts 0 = .ok (.aload_n 0, 1) := dgX9_counts_0.1
theorem dX9_counts_1 : decode cX9_counts 1 = .ok (.getfield 9, 3) := dgX9_counts_0.2.1
theorem dX9_counts_4 : decode cX9_counts 4 = .ok (.iconst 4, 1) := dgX9_counts_0.2.2.1
theorem dX9_counts_5 : decode cX9_counts 5 = .ok (.iaload, 1) := dgX9_counts_0.2.2.2.1
theorem dX9_counts_6 : decode cX9_counts 6 = .ok (.iconst 1, 1) := dgX9_counts_0.2.2.2.2.1
theorem dX9_counts_7 : decode cX9_counts 7 = .ok (.isub, 1) := dgX9_counts_0.2.2.2.2.2.1
theorem dX9_counts_8 : decode cX9_counts 8 = .ok (.istore_n 2, 1) := dgX9_counts_0.2.2.2.2.2.2.1
theorem dX9_counts_9 : decode cX9_counts 9 = .ok (.iload_n 2, 1) := dgX9_counts_0.2.2.2.2.2.2.2.1
theorem dX9_counts_10 : decode cX9_counts 10 = .ok (.ifCond .lt 30, 3) := dgX9_counts_0.2.2.2.2.2.2.2.2.1
theorem dX9_counts_13 : decode cX9_counts 13 = .ok (.aload_n 0, 1) := dgX9_counts_0.2.2.2.2.2.2.2.2.2.1
theorem dX9_counts_14 : decode cX9_counts 14 = .ok (.getfield 9, 3) := dgX9_counts_0.2.2.2.2.2.2.2.2.2.2.1
theorem dX9_counts_17 : decode cX9_counts 17 = .ok (.bipush 89, 2) := dgX9_counts_0.2.2.2.2.2.2.2.2.2.2.2.1
theorem dX9_counts_19 : decode cX9_counts 19 = .ok (.iconst 2, 1) := dgX9_counts_0.2.2.2.2.2.2.2.2.2.2.2.2.1
theorem dX9_counts_20 : decode cX9_counts 20 = .ok (.iload_n 2, 1) := dgX9_counts_0.2.2.2.2.2.2.2.2.2.2.2.2.2.1
theorem dX9_counts_21 : decode cX9_counts 21 = .ok (.imul, 1) := dgX9_counts_0.2.2.2.2.2.2.2.2.2.2.2.2.2.2.1
theorem dX9_counts_22 : decode cX9_counts 22 = .ok (.iadd, 1) := dgX9_counts_0.2.2.2.2.2.2.2.2.2.2.2.2.2.2.2
theorem dgX9_counts_1 : decode cX9_counts 23 = .ok (.iaload, 1) ∧ decode cX9_counts 24 = .ok (.sipush 1000, 3) ∧ decode cX9_counts 27 = .ok (.idiv, 1) ∧ decode cX9_counts 28 = .ok (.iload_n 1, 1) ∧ decode cX9_counts 29 = .ok (.if_icmp .ne 5, 3) ∧ decode cX9_counts 32 = .ok (.iload_n 2, 1) ∧ decode cX9_counts 33 = .ok (.ireturn, 1) ∧ decode cX9_counts 34 = .ok (.iinc 2 (-1), 3) ∧ decode cX9_counts 37 = .ok (.goto (-28), 3) ∧ decode cX9_counts 40 = .ok (.iconst (-1), 1) ∧ decode cX9_counts 41 = .ok (.ireturn, 1) := by decide +kernel
theorem dX9_counts_23 : decode cX9_counts 23 = .ok (.iaload, 1) := dgX9_counts_1.1
theorem dX9_counts_24 : decode cX9_counts 24 = .ok (.sipush 1000, 3) := dgX9_counts_1.2.1
theorem dX9_counts_27 : decode cX9_counts 27 = .ok (.idiv, 1) := dgX9_counts_1.2.2.1
theorem dX9_counts_28 : decode cX9_counts 28 = .ok (.iload_n 1, 1) := dgX9_counts_1.2.2.2.1
theorem dX9_counts_29 : decode cX9_counts 29 = .ok (.if_icmp .ne 5, 3) := dgX9_counts_1.2.2.2.2.1
theorem dX9_counts_32 : decode cX9_counts 32 = .ok (.iload_n 2, 1) := dgX9_counts_1.2.2.2.2.2.1
theorem dX9_counts_33 : decode cX9_counts 33 = .ok (.ireturn, 1) := dgX9_counts_1.2.2.2.2.2.2.1
theorem dX9_counts_34 : decode cX9_counts 34 = .ok (.iinc 2 (-1), 3) := dgX9_counts_1.2.2.2.2.2.2.2.1
theorem dX9_counts_37 : decode cX9_counts 37 = .ok (.goto (-28), 3) := dgX9_counts_1.2.2.2.2.2.2.2.2.1
theorem dX9_counts_40 : decode cX9_counts 40 = .ok (.iconst (-1), 1) := dgX9_counts_1.2.2.2.2.2.2.2.2.2.1
theorem dX9_counts_41 : decode cX9_counts 41 = .ok (.ireturn, 1) := dgX9_counts_1.2.2.2.2.2.2.2.2.2.2
abbrev pX9_counts : List Nat := [0, 9, 34, 40]
def bX9_counts_0 (cal : ab_F) : ab_K := o_aload 0 <| o_getf 8 0 <| o_push (.int 4) <| o_iald 0 <| o_push (.int 1) <| o_bin (fun x y => x - y) <| o_istore 2 <| o_goto 1
def bX9_counts_1 (cal : ab_F) : ab_K := o_iload 2 <| o_if (fun x => decide (x < 0)) 3 <| o_aload 0 <| o_getf 8 0 <| o_push (.int 89) <| o_push (.int 2) <| o_iload 2 <| o_bin (fun x y => x * y) <| o_bin (fun x y => x + y) <| o_iald 0 <| o_push (.int 1000) <| o_div (fun x y => x / y) <| o_iload 1 <| o_cmp (fun x y => decide (¬ x = y)) 2 <| o_iload 2 <| o_ret (some .int)
def bX9_counts_2 (cal : ab_F) : ab_K := o_iinc 2 (-1) <| o_goto 1
def bX9_counts_3 (cal : ab_F) : ab_K := o_push (.int (-1)) <| o_ret (some .int)
def bX9_counts (cal : ab_F) : List ab_K := [bX9_counts_0 cal, bX9_counts_1 cal, bX9_counts_2 cal, bX9_counts_3 cal]
set_option maxRecDepth 100000 in
theorem sX9_counts_0 {G : ab_G} {xs : List Int32} {d : Nat} {cal : ab_F} (hcs : ab_CS G (ab_Z G xs) ab_Mf cal d) : ab_Sd G (ab_Z G xs) (d + 1) (ab_mY mX9_counts pX9_counts) 0 (bX9_counts_0 cal) :=
  sn_aload_n dX9_counts_0 rfl <| sn_getf dX9_counts_1 rfl hinX9 (by decide) w_991 <| sn_iconst dX9_counts_4 rfl <| sn_iald dX9_counts_5 rfl <| sn_iconst dX9_counts_6 rfl <| sn_isub dX9_counts_7 <| sn_istore_n dX9_counts_8 rfl (by decide) <| sn_next rfl
set_option maxRecDepth 100000 in
theorem sX9_counts_1 {G : ab_G} {xs : List Int32} {d : Nat} {cal : ab_F} (hcs : ab_CS G (ab_Z G xs) ab_Mf cal d) : ab_Sd G (ab_Z G xs) (d + 1) (ab_mY mX9_counts pX9_counts) 9 (bX9_counts_1 cal) :=
  sn_iload_n dX9_counts_9 rfl <| sn_if_lt (tg := 40) dX9_counts_10 rfl rfl <| sn_aload_n dX9_counts_13 rfl <| sn_getf dX9_counts_14 rfl hinX9 (by decide) w_991 <| sn_bipush dX9_counts_17 rfl <| sn_iconst dX9_counts_19 rfl <| sn_iload_n dX9_counts_20 rfl <| sn_imul dX9_counts_21 <| sn_iadd dX9_counts_22 <| sn_iald dX9_counts_23 rfl <| sn_sipush dX9_counts_24 rfl <| sn_idiv dX9_counts_27 <| sn_iload_n dX9_counts_28 rfl <| sn_cmp_ne (tg := 34) dX9_counts_29 rfl rfl <| sn_iload_n dX9_counts_32 rfl <| sn_ret dX9_counts_33 ab_ri_int
set_option maxRecDepth 100000 in
theorem sX9_counts_2 {G : ab_G} {xs : List Int32} {d : Nat} {cal : ab_F} (hcs : ab_CS G (ab_Z G xs) ab_Mf cal d) : ab_Sd G (ab_Z G xs) (d + 1) (ab_mY mX9_counts pX9_counts) 34 (bX9_counts_2 cal) :=
  sn_iinc dX9_counts_34 rfl (by decide) <| sn_goto (tg := 9) dX9_counts_37 rfl rfl
set_option maxRecDepth 100000 in
theorem sX9_counts_3 {G : ab_G} {xs : List Int32} {d : Nat} {cal : ab_F} (hcs : ab_CS G (ab_Z G xs) ab_Mf cal d) : ab_Sd G (ab_Z G xs) (d + 1) (ab_mY mX9_counts pX9_counts) 40 (bX9_counts_3 cal) :=
  sn_iconst dX9_counts_40 rfl <| sn_ret dX9_counts_41 ab_ri_int
theorem sX9_counts {G : ab_G} {xs : List Int32} {d : Nat} {cal : ab_F} (hcs : ab_CS G (ab_Z G xs) ab_Mf cal d) : ab_BS G (ab_Z G xs) (d + 1) (ab_mY mX9_counts pX9_counts) pX9_counts (bX9_counts cal) := ⟨sX9_counts_0 hcs, sX9_counts_1 hcs, sX9_counts_2 hcs, sX9_counts_3 hcs, trivial⟩
theorem dgX9_why_0 : decode cX9_why 0 = .ok (.iload_n 1, 1) ∧ decode cX9_why 1 = .ok (.iconst 0, 1) ∧ decode cX9_why 2 = .ok (.iconst 2, 1) ∧ decode cX9_why 3 = .ok (.invokestatic 86, 3) ∧ decode cX9_why 6 = .ok (.ifCond .ne 6, 3) ∧ decode cX9_why 9 = .ok (.ldc 90, 2) ∧ decode cX9_why 11 = .ok (.ireturn, 1) ∧ decode cX9_why 12 = .ok (.aload_n 0, 1) ∧ decode cX9_why 13 = .ok (.iload_n 1, 1) ∧ decode cX9_why 14 = .ok (.invokevirtual 111, 3) ∧ decode cX9_why 17 = .ok (.istore_n 2, 1) ∧ decode cX9_why 18 = .ok (.iload_n 2, 1) ∧ decode cX9_why 19 = .ok (.ifCond .ge 8, 3) ∧ decode cX9_why 22 = .ok (.ldc 85, 2) ∧ decode cX9_why 24 = .ok (.goto 4, 3) ∧ decode cX9_why 27 = .ok (.iload_n 2, 1) := by decide +kernel
theorem dX9_why_0 : decode cX9_why 0 = .ok (.iload_n 1, 1) := dgX9_why_0.1
theorem dX9_why_1 : decode cX9_why 1 = .ok (.iconst 0, 1) := dgX9_why_0.2.1
theorem dX9_why_2 : decode cX9_why 2 = .ok (.iconst 2, 1) := dgX9_why_0.2.2.1
theorem dX9_why_3 : decode cX9_why 3 = .ok (.invokestatic 86, 3) := dgX9_why_0.2.2.2.1
theorem dX9_why_6 : decode cX9_why 6 = .ok (.ifCond .ne 6, 3) := dgX9_why_0.2.2.2.2.1
theorem dX9_why_9 : decode cX9_why 9 = .ok (.ldc 90, 2) := dgX9_why_0.2.2.2.2.2.1
theorem dX9_why_11 : decode cX9_why 11 = .ok (.ireturn, 1) := dgX9_why_0.2.2.2.2.2.2.1
theorem dX9_why_12 : decode cX9_why 12 = .ok (.aload_n 0, 1) := dgX9_why_0.2.2.2.2.2.2.2.1
theorem dX9_why_13 : decode cX9_why 13 = .ok (.iload_n 1, 1) := dgX9_why_0.2.2.2.2.2.2.2.2.1
theorem dX9_why_14 : decode cX9_why 14 = .ok (.invokevirtual 111, 3) := dgX9_why_0.2.2.2.2.2.2.2.2.2.1
theorem dX9_why_17 : decode cX9_why 17 = .ok (.istore_n 2, 1) := dgX9_why_0.2.2.2.2.2.2.2.2.2.2.1
theorem dX9_why_18 : decode cX9_why 18 = .ok (.iload_n 2, 1) := dgX9_why_0.2.2.2.2.2.2.2.2.2.2.2.1
theorem dX9_why_19 : decode cX9_why 19 = .ok (.ifCond .ge 8, 3) := dgX9_why_0.2.2.2.2.2.2.2.2.2.2.2.2.1
theorem dX9_why_22 : decode cX9_why 22 = .ok (.ldc 85, 2) := dgX9_why_0.2.2.2.2.2.2.2.2.2.2.2.2.2.1
theorem dX9_why_24 : decode cX9_why 24 = .ok (.goto 4, 3) := dgX9_why_0.2.2.2.2.2.2.2.2.2.2.2.2.2.2.1
theorem dX9_why_27 : decode cX9_why 27 = .ok (.iload_n 2, 1) := dgX9_why_0.2.2.2.2.2.2.2.2.2.2.2.2.2.2.2
theorem dX9_why_28 : decode cX9_why 28 = .ok (.ireturn, 1) := by decide +kernel
abbrev pX9_why : List Nat := [0, 12, 27, 28]
def bX9_why_0 (cal : ab_F) : ab_K := o_iload 1 <| o_push (.int 0) <| o_push (.int 2) <| o_callS cal 128 3 <| o_if (fun x => decide (¬ x = 0)) 1 <| o_push (.int (-1000000001)) <| o_ret (some .int)
def bX9_why_1 (cal : ab_F) : ab_K := o_aload 0 <| o_iload 1 <| o_callV cal 202 1 8 <| o_istore 2 <| o_iload 2 <| o_if (fun x => decide (0 ≤ x)) 2 <| o_push (.int (-1000000005)) <| o_goto 3
def bX9_why_2 (cal : ab_F) : ab_K := o_iload 2 <| o_goto 3
def bX9_why_3 (cal : ab_F) : ab_K := o_ret (some .int)
def bX9_why (cal : ab_F) : List ab_K := [bX9_why_0 cal, bX9_why_1 cal, bX9_why_2 cal, bX9_why_3 cal]
set_option maxRecDepth 100000 in
theorem sX9_why_0 {G : ab_G} {xs : List Int32} {d : Nat} {cal : ab_F} (hcs : ab_CS G (ab_Z G xs) ab_Mf cal d) : ab_Sd G (ab_Z G xs) (d + 1) (ab_mY mX9_why pX9_why) 0 (bX9_why_0 cal) :=
  sn_iload_n dX9_why_0 rfl <| sn_iconst dX9_why_1 rfl <| sn_iconst dX9_why_2 rfl <| sq_callS mt_128 hcs dX9_why_3 w_1106 w_1107 w_63 w_1108 hy_128 hm_128 <| sn_if_ne (tg := 12) dX9_why_6 rfl rfl <| sn_ldc dX9_why_9 w_1109 <| sn_ret dX9_why_11 ab_ri_int
set_option maxRecDepth 100000 in
theorem sX9_why_1 {G : ab_G} {xs : List Int32} {d : Nat} {cal : ab_F} (hcs : ab_CS G (ab_Z G xs) ab_Mf cal d) : ab_Sd G (ab_Z G xs) (d + 1) (ab_mY mX9_why pX9_why) 12 (bX9_why_1 cal) :=
  sn_aload_n dX9_why_12 rfl <| sn_iload_n dX9_why_13 rfl <| sq_callV mt_202 hcs dX9_why_14 rfl w_1154 w_1156 w_24 w_63 w_1157 hy_202 hm_202 <| sn_istore_n dX9_why_17 rfl (by decide) <| sn_iload_n dX9_why_18 rfl <| sn_if_ge (tg := 27) dX9_why_19 rfl rfl <| sn_ldc dX9_why_22 w_1260 <| sn_goto (tg := 28) dX9_why_24 rfl rfl
set_option maxRecDepth 100000 in
theorem sX9_why_2 {G : ab_G} {xs : List Int32} {d : Nat} {cal : ab_F} (hcs : ab_CS G (ab_Z G xs) ab_Mf cal d) : ab_Sd G (ab_Z G xs) (d + 1) (ab_mY mX9_why pX9_why) 27 (bX9_why_2 cal) :=
  sn_iload_n dX9_why_27 rfl <| sn_next rfl
set_option maxRecDepth 100000 in
theorem sX9_why_3 {G : ab_G} {xs : List Int32} {d : Nat} {cal : ab_F} (hcs : ab_CS G (ab_Z G xs) ab_Mf cal d) : ab_Sd G (ab_Z G xs) (d + 1) (ab_mY mX9_why pX9_why) 28 (bX9_why_3 cal) :=
  sn_ret dX9_why_28 ab_ri_int
theorem sX9_why {G : ab_G} {xs : List Int32} {d : Nat} {cal : ab_F} (hcs : ab_CS G (ab_Z G xs) ab_Mf cal d) : ab_BS G (ab_Z G xs) (d + 1) (ab_mY mX9_why pX9_why) pX9_why (bX9_why cal) := ⟨sX9_why_0 hcs, sX9_why_1 hcs, sX9_why_2 hcs, sX9_why_3 hcs, trivial⟩
theorem dgX9_two_0 : decode cX9_two 0 = .ok (.iload_n 0, 1) ∧ decode cX9_two 1 = .ok (.tableswitch 120 (-8) (-1) #[116, 112, 108, 97, 86, 75, 61, 47], 47) ∧ decode cX9_two 48 = .ok (.iload_n 1, 1) ∧ decode cX9_two 49 = .ok (.ifCond .ne 7, 3) ∧ decode cX9_two 52 = .ok (.iload_n 2, 1) ∧ decode cX9_two 53 = .ok (.ifCond .eq 7, 3) ∧ decode cX9_two 56 = .ok (.iconst 1, 1) ∧ decode cX9_two 57 = .ok (.goto 4, 3) ∧ decode cX9_two 60 = .ok (.iconst 0, 1) ∧ decode cX9_two 61 = .ok (.ireturn, 1) ∧ decode cX9_two 62 = .ok (.iload_n 1, 1) ∧ decode cX9_two 63 = .ok (.ifCond .eq 11, 3) ∧ decode cX9_two 66 = .ok (.iload_n 2, 1) ∧ decode cX9_two 67 = .ok (.ifCond .eq 7, 3) ∧ decode cX9_two 70 = .ok (.iconst 1, 1) ∧ decode cX9_two 71 = .ok (.goto 4, 3) := by decide +kernel
theorem dX9_two_0 : decode cX9_two 0 = .ok (.iload_n 0, 1) := dgX9_two_0.1
theorem dX9_two_1 : decode cX9_two 1 = .ok (.tableswitch 120 (-8) (-1) #[116, 112, 108, 97, 86, 75, 61, 47], 47) := dgX9_two_0.2.1
theorem dX9_two_48 : decode cX9_two 48 = .ok (.iload_n 1, 1) := dgX9_two_0.2.2.1
theorem dX9_two_49 : decode cX9_two 49 = .ok (.ifCond .ne 7, 3) := dgX9_two_0.2.2.2.1
theorem dX9_two_52 : decode cX9_two 52 = .ok (.iload_n 2, 1) := dgX9_two_0.2.2.2.2.1
theorem dX9_two_53 : decode cX9_two 53 = .ok (.ifCond .eq 7, 3) := dgX9_two_0.2.2.2.2.2.1
theorem dX9_two_56 : decode cX9_two 56 = .ok (.iconst 1, 1) := dgX9_two_0.2.2.2.2.2.2.1
theorem dX9_two_57 : decode cX9_two 57 = .ok (.goto 4, 3) := dgX9_two_0.2.2.2.2.2.2.2.1
theorem dX9_two_60 : decode cX9_two 60 = .ok (.iconst 0, 1) := dgX9_two_0.2.2.2.2.2.2.2.2.1
theorem dX9_two_61 : decode cX9_two 61 = .ok (.ireturn, 1) := dgX9_two_0.2.2.2.2.2.2.2.2.2.1
theorem dX9_two_62 : decode cX9_two 62 = .ok (.iload_n 1, 1) := dgX9_two_0.2.2.2.2.2.2.2.2.2.2.1
theorem dX9_two_63 : decode cX9_two 63 = .ok (.ifCond .eq 11, 3) := dgX9_two_0.2.2.2.2.2.2.2.2.2.2.2.1
theorem dX9_two_66 : decode cX9_two 66 = .ok (.iload_n 2, 1) := dgX9_two_0.2.2.2.2.2.2.2.2.2.2.2.2.1
theorem dX9_two_67 : decode cX9_two 67 = .ok (.ifCond .eq 7, 3) := dgX9_two_0.2.2.2.2.2.2.2.2.2.2.2.2.2.1
theorem dX9_two_70 : decode cX9_two 70 = .ok (.iconst 1, 1) := dgX9_two_0.2.2.2.2.2.2.2.2.2.2.2.2.2.2.1
theorem dX9_two_71 : decode cX9_two 71 = .ok (.goto 4, 3) := dgX9_two_0.2.2.2.2.2.2.2.2.2.2.2.2.2.2.2
theorem dgX9_two_1 : decode cX9_two 74 = .ok (.iconst 0, 1) ∧ decode cX9_two 75 = .ok (.ireturn, 1) ∧ decode cX9_two 76 = .ok (.iload_n 1, 1) ∧ decode cX9_two 77 = .ok (.iload_n 2, 1) ∧ decode cX9_two 78 = .ok (.if_icmp .ge 7, 3) ∧ decode cX9_two 81 = .ok (.iconst 1, 1) ∧ decode cX9_two 82 = .ok (.goto 4, 3) ∧ decode cX9_two 85 = .ok (.iconst 0, 1) ∧ decode cX9_two 86 = .ok (.ireturn, 1) ∧ decode cX9_two 87 = .ok (.iload_n 1, 1) ∧ decode cX9_two 88 = .ok (.iload_n 2, 1) ∧ decode cX9_two 89 = .ok (.if_icmp .ne 7, 3) ∧ decode cX9_two 92 = .ok (.iconst 1, 1) ∧ decode cX9_two 93 = .ok (.goto 4, 3) ∧ decode cX9_two 96 = .ok (.iconst 0, 1) ∧ decode cX9_two 97 = .ok (.ireturn, 1) := by decide +kernel
theorem dX9_two_74 : decode cX9_two 74 = .ok (.iconst 0, 1) := dgX9_two_1.1
theorem dX9_two_75 : decode cX9_two 75 = .ok (.ireturn, 1) := dgX9_two_1.2.1
theorem dX9_two_76 : decode cX9_two 76 = .ok (.iload_n 1, 1) := dgX9_two_1.2.2.1
theorem dX9_two_77 : decode cX9_two 77 = .ok (.iload_n 2, 1) := dgX9_two_1.2.2.2.1
theorem dX9_two_78 : decode cX9_two 78 = .ok (.if_icmp .ge 7, 3) := dgX9_two_1.2.2.2.2.1
theorem dX9_two_81 : decode cX9_two 81 = .ok (.iconst 1, 1) := dgX9_two_1.2.2.2.2.2.1
theorem dX9_two_82 : decode cX9_two 82 = .ok (.goto 4, 3) := dgX9_two_1.2.2.2.2.2.2.1
theorem dX9_two_85 : decode cX9_two 85 = .ok (.iconst 0, 1) := dgX9_two_1.2.2.2.2.2.2.2.1
theorem dX9_two_86 : decode cX9_two 86 = .ok (.ireturn, 1) := dgX9_two_1.2.2.2.2.2.2.2.2.1
theorem dX9_two_87 : decode cX9_two 87 = .ok (.iload_n 1, 1) := dgX9_two_1.2.2.2.2.2.2.2.2.2.1
theorem dX9_two_88 : decode cX9_two 88 = .ok (.iload_n 2, 1) := dgX9_two_1.2.2.2.2.2.2.2.2.2.2.1
theorem dX9_two_89 : decode cX9_two 89 = .ok (.if_icmp .ne 7, 3) := dgX9_two_1.2.2.2.2.2.2.2.2.2.2.2.1
theorem dX9_two_92 : decode cX9_two 92 = .ok (.iconst 1, 1) := dgX9_two_1.2.2.2.2.2.2.2.2.2.2.2.2.1
theorem dX9_two_93 : decode cX9_two 93 = .ok (.goto 4, 3) := dgX9_two_1.2.2.2.2.2.2.2.2.2.2.2.2.2.1
theorem dX9_two_96 : decode cX9_two 96 = .ok (.iconst 0, 1) := dgX9_two_1.2.2.2.2.2.2.2.2.2.2.2.2.2.2.1
theorem dX9_two_97 : decode cX9_two 97 = .ok (.ireturn, 1) := dgX9_two_1.2.2.2.2.2.2.2.2.2.2.2.2.2.2.2
theorem dgX9_two_2 : decode cX9_two 98 = .ok (.iload_n 1, 1) ∧ decode cX9_two 99 = .ok (.iload_n 2, 1) ∧ decode cX9_two 100 = .ok (.if_icmp .le 7, 3) ∧ decode cX9_two 103 = .ok (.iconst 1, 1) ∧ decode cX9_two 104 = .ok (.goto 4, 3) ∧ decode cX9_two 107 = .ok (.iconst 0, 1) ∧ decode cX9_two 108 = .ok (.ireturn, 1) ∧ decode cX9_two 109 = .ok (.iload_n 1, 1) ∧ decode cX9_two 110 = .ok (.iload_n 2, 1) ∧ decode cX9_two 111 = .ok (.iadd, 1) ∧ decode cX9_two 112 = .ok (.ireturn, 1) ∧ decode cX9_two 113 = .ok (.iload_n 1, 1) ∧ decode cX9_two 114 = .ok (.iload_n 2, 1) ∧ decode cX9_two 115 = .ok (.isub, 1) ∧ decode cX9_two 116 = .ok (.ireturn, 1) ∧ decode cX9_two 117 = .ok (.iload_n 1, 1) := by decide +kernel
theorem dX9_two_98 : decode cX9_two 98 = .ok (.iload_n 1, 1) := dgX9_two_2.1
theorem dX9_two_99 : decode cX9_two 99 = .ok (.iload_n 2, 1) := dgX9_two_2.2.1
theorem dX9_two_100 : decode cX9_two 100 = .ok (.if_icmp .le 7, 3) := dgX9_two_2.2.2.1
theorem dX9_two_103 : decode cX9_two 103 = .ok (.iconst 1, 1) := dgX9_two_2.2.2.2.1
theorem dX9_two_104 : decode cX9_two 104 = .ok (.goto 4, 3) := dgX9_two_2.2.2.2.2.1
theorem dX9_two_107 : decode cX9_two 107 = .ok (.iconst 0, 1) := dgX9_two_2.2.2.2.2.2.1
theorem dX9_two_108 : decode cX9_two 108 = .ok (.ireturn, 1) := dgX9_two_2.2.2.2.2.2.2.1
theorem dX9_two_109 : decode cX9_two 109 = .ok (.iload_n 1, 1) := dgX9_two_2.2.2.2.2.2.2.2.1
theorem dX9_two_110 : decode cX9_two 110 = .ok (.iload_n 2, 1) := dgX9_two_2.2.2.2.2.2.2.2.2.1
theorem dX9_two_111 : decode cX9_two 111 = .ok (.iadd, 1) := dgX9_two_2.2.2.2.2.2.2.2.2.2.1
theorem dX9_two_112 : decode cX9_two 112 = .ok (.ireturn, 1) := dgX9_two_2.2.2.2.2.2.2.2.2.2.2.1
theorem dX9_two_113 : decode cX9_two 113 = .ok (.iload_n 1, 1) := dgX9_two_2.2.2.2.2.2.2.2.2.2.2.2.1
theorem dX9_two_114 : decode cX9_two 114 = .ok (.iload_n 2, 1) := dgX9_two_2.2.2.2.2.2.2.2.2.2.2.2.2.1
theorem dX9_two_115 : decode cX9_two 115 = .ok (.isub, 1) := dgX9_two_2.2.2.2.2.2.2.2.2.2.2.2.2.2.1
theorem dX9_two_116 : decode cX9_two 116 = .ok (.ireturn, 1) := dgX9_two_2.2.2.2.2.2.2.2.2.2.2.2.2.2.2.1
theorem dX9_two_117 : decode cX9_two 117 = .ok (.iload_n 1, 1) := dgX9_two_2.2.2.2.2.2.2.2.2.2.2.2.2.2.2.2
theorem dgX9_two_3 : decode cX9_two 118 = .ok (.iload_n 2, 1) ∧ decode cX9_two 119 = .ok (.imul, 1) ∧ decode cX9_two 120 = .ok (.ireturn, 1) ∧ decode cX9_two 121 = .ok (.iload_n 2, 1) ∧ decode cX9_two 122 = .ok (.ifCond .ne 7, 3) ∧ decode cX9_two 125 = .ok (.iconst 0, 1) ∧ decode cX9_two 126 = .ok (.goto 6, 3) ∧ decode cX9_two 129 = .ok (.iload_n 1, 1) ∧ decode cX9_two 130 = .ok (.iload_n 2, 1) ∧ decode cX9_two 131 = .ok (.idiv, 1) ∧ decode cX9_two 132 = .ok (.ireturn, 1) := by decide +kernel
theorem dX9_two_118 : decode cX9_two 118 = .ok (.iload_n 2, 1) := dgX9_two_3.1
theorem dX9_two_119 : decode cX9_two 119 = .ok (.imul, 1) := dgX9_two_3.2.1
theorem dX9_two_120 : decode cX9_two 120 = .ok (.ireturn, 1) := dgX9_two_3.2.2.1
theorem dX9_two_121 : decode cX9_two 121 = .ok (.iload_n 2, 1) := dgX9_two_3.2.2.2.1
theorem dX9_two_122 : decode cX9_two 122 = .ok (.ifCond .ne 7, 3) := dgX9_two_3.2.2.2.2.1
theorem dX9_two_125 : decode cX9_two 125 = .ok (.iconst 0, 1) := dgX9_two_3.2.2.2.2.2.1
theorem dX9_two_126 : decode cX9_two 126 = .ok (.goto 6, 3) := dgX9_two_3.2.2.2.2.2.2.1
theorem dX9_two_129 : decode cX9_two 129 = .ok (.iload_n 1, 1) := dgX9_two_3.2.2.2.2.2.2.2.1
theorem dX9_two_130 : decode cX9_two 130 = .ok (.iload_n 2, 1) := dgX9_two_3.2.2.2.2.2.2.2.2.1
theorem dX9_two_131 : decode cX9_two 131 = .ok (.idiv, 1) := dgX9_two_3.2.2.2.2.2.2.2.2.2.1
theorem dX9_two_132 : decode cX9_two 132 = .ok (.ireturn, 1) := dgX9_two_3.2.2.2.2.2.2.2.2.2.2
abbrev pX9_two : List Nat := [0, 48, 56, 60, 61, 62, 74, 75, 76, 85, 86, 87, 96, 97, 98, 107, 108, 109, 113, 117, 121, 129, 132]
def bX9_two_0 (cal : ab_F) : ab_K := o_iload 0 <| o_sw (ab_tsw (-8) [19, 18, 17, 14, 11, 8, 5, 1] 20)
def bX9_two_1 (cal : ab_F) : ab_K := o_iload 1 <| o_if (fun x => decide (¬ x = 0)) 2 <| o_iload 2 <| o_if (fun x => decide (x = 0)) 3 <| o_goto 2
def bX9_two_2 (cal : ab_F) : ab_K := o_push (.int 1) <| o_goto 4
def bX9_two_3 (cal : ab_F) : ab_K := o_push (.int 0) <| o_goto 4
def bX9_two_4 (cal : ab_F) : ab_K := o_ret (some .int)
def bX9_two_5 (cal : ab_F) : ab_K := o_iload 1 <| o_if (fun x => decide (x = 0)) 6 <| o_iload 2 <| o_if (fun x => decide (x = 0)) 6 <| o_push (.int 1) <| o_goto 7
def bX9_two_6 (cal : ab_F) : ab_K := o_push (.int 0) <| o_goto 7
def bX9_two_7 (cal : ab_F) : ab_K := o_ret (some .int)
def bX9_two_8 (cal : ab_F) : ab_K := o_iload 1 <| o_iload 2 <| o_cmp (fun x y => decide (y ≤ x)) 9 <| o_push (.int 1) <| o_goto 10
def bX9_two_9 (cal : ab_F) : ab_K := o_push (.int 0) <| o_goto 10
def bX9_two_10 (cal : ab_F) : ab_K := o_ret (some .int)
def bX9_two_11 (cal : ab_F) : ab_K := o_iload 1 <| o_iload 2 <| o_cmp (fun x y => decide (¬ x = y)) 12 <| o_push (.int 1) <| o_goto 13
def bX9_two_12 (cal : ab_F) : ab_K := o_push (.int 0) <| o_goto 13
def bX9_two_13 (cal : ab_F) : ab_K := o_ret (some .int)
def bX9_two_14 (cal : ab_F) : ab_K := o_iload 1 <| o_iload 2 <| o_cmp (fun x y => decide (x ≤ y)) 15 <| o_push (.int 1) <| o_goto 16
def bX9_two_15 (cal : ab_F) : ab_K := o_push (.int 0) <| o_goto 16
def bX9_two_16 (cal : ab_F) : ab_K := o_ret (some .int)
def bX9_two_17 (cal : ab_F) : ab_K := o_iload 1 <| o_iload 2 <| o_bin (fun x y => x + y) <| o_ret (some .int)
def bX9_two_18 (cal : ab_F) : ab_K := o_iload 1 <| o_iload 2 <| o_bin (fun x y => x - y) <| o_ret (some .int)
def bX9_two_19 (cal : ab_F) : ab_K := o_iload 1 <| o_iload 2 <| o_bin (fun x y => x * y) <| o_ret (some .int)
def bX9_two_20 (cal : ab_F) : ab_K := o_iload 2 <| o_if (fun x => decide (¬ x = 0)) 21 <| o_push (.int 0) <| o_goto 22
def bX9_two_21 (cal : ab_F) : ab_K := o_iload 1 <| o_iload 2 <| o_div (fun x y => x / y) <| o_goto 22
def bX9_two_22 (cal : ab_F) : ab_K := o_ret (some .int)
def bX9_two (cal : ab_F) : List ab_K := [bX9_two_0 cal, bX9_two_1 cal, bX9_two_2 cal, bX9_two_3 cal, bX9_two_4 cal, bX9_two_5 cal, bX9_two_6 cal, bX9_two_7 cal, bX9_two_8 cal, bX9_two_9 cal, bX9_two_10 cal, bX9_two_11 cal, bX9_two_12 cal, bX9_two_13 cal, bX9_two_14 cal, bX9_two_15 cal, bX9_two_16 cal, bX9_two_17 cal, bX9_two_18 cal, bX9_two_19 cal, bX9_two_20 cal, bX9_two_21 cal, bX9_two_22 cal]
set_option maxRecDepth 100000 in
theorem sX9_two_0 {G : ab_G} {xs : List Int32} {d : Nat} {cal : ab_F} (hcs : ab_CS G (ab_Z G xs) ab_Mf cal d) : ab_Sd G (ab_Z G xs) (d + 1) (ab_mY mX9_two pX9_two) 0 (bX9_two_0 cal) :=
  sn_iload_n dX9_two_0 rfl <| sn_tsw dX9_two_1 rfl rfl rfl
set_option maxRecDepth 100000 in
theorem sX9_two_1 {G : ab_G} {xs : List Int32} {d : Nat} {cal : ab_F} (hcs : ab_CS G (ab_Z G xs) ab_Mf cal d) : ab_Sd G (ab_Z G xs) (d + 1) (ab_mY mX9_two pX9_two) 48 (bX9_two_1 cal) :=
  sn_iload_n dX9_two_48 rfl <| sn_if_ne (tg := 56) dX9_two_49 rfl rfl <| sn_iload_n dX9_two_52 rfl <| sn_if_eq (tg := 60) dX9_two_53 rfl rfl <| sn_next rfl
set_option maxRecDepth 100000 in
theorem sX9_two_2 {G : ab_G} {xs : List Int32} {d : Nat} {cal : ab_F} (hcs : ab_CS G (ab_Z G xs) ab_Mf cal d) : ab_Sd G (ab_Z G xs) (d + 1) (ab_mY mX9_two pX9_two) 56 (bX9_two_2 cal) :=
  sn_iconst dX9_two_56 rfl <| sn_goto (tg := 61) dX9_two_57 rfl rfl
set_option maxRecDepth 100000 in
theorem sX9_two_3 {G : ab_G} {xs : List Int32} {d : Nat} {cal : ab_F} (hcs : ab_CS G (ab_Z G xs) ab_Mf cal d) : ab_Sd G (ab_Z G xs) (d + 1) (ab_mY mX9_two pX9_two) 60 (bX9_two_3 cal) :=
  sn_iconst dX9_two_60 rfl <| sn_next rfl
set_option maxRecDepth 100000 in
theorem sX9_two_4 {G : ab_G} {xs : List Int32} {d : Nat} {cal : ab_F} (hcs : ab_CS G (ab_Z G xs) ab_Mf cal d) : ab_Sd G (ab_Z G xs) (d + 1) (ab_mY mX9_two pX9_two) 61 (bX9_two_4 cal) :=
  sn_ret dX9_two_61 ab_ri_int
set_option maxRecDepth 100000 in
theorem sX9_two_5 {G : ab_G} {xs : List Int32} {d : Nat} {cal : ab_F} (hcs : ab_CS G (ab_Z G xs) ab_Mf cal d) : ab_Sd G (ab_Z G xs) (d + 1) (ab_mY mX9_two pX9_two) 62 (bX9_two_5 cal) :=
  sn_iload_n dX9_two_62 rfl <| sn_if_eq (tg := 74) dX9_two_63 rfl rfl <| sn_iload_n dX9_two_66 rfl <| sn_if_eq (tg := 74) dX9_two_67 rfl rfl <| sn_iconst dX9_two_70 rfl <| sn_goto (tg := 75) dX9_two_71 rfl rfl
set_option maxRecDepth 100000 in
theorem sX9_two_6 {G : ab_G} {xs : List Int32} {d : Nat} {cal : ab_F} (hcs : ab_CS G (ab_Z G xs) ab_Mf cal d) : ab_Sd G (ab_Z G xs) (d + 1) (ab_mY mX9_two pX9_two) 74 (bX9_two_6 cal) :=
  sn_iconst dX9_two_74 rfl <| sn_next rfl
set_option maxRecDepth 100000 in
theorem sX9_two_7 {G : ab_G} {xs : List Int32} {d : Nat} {cal : ab_F} (hcs : ab_CS G (ab_Z G xs) ab_Mf cal d) : ab_Sd G (ab_Z G xs) (d + 1) (ab_mY mX9_two pX9_two) 75 (bX9_two_7 cal) :=
  sn_ret dX9_two_75 ab_ri_int
set_option maxRecDepth 100000 in
theorem sX9_two_8 {G : ab_G} {xs : List Int32} {d : Nat} {cal : ab_F} (hcs : ab_CS G (ab_Z G xs) ab_Mf cal d) : ab_Sd G (ab_Z G xs) (d + 1) (ab_mY mX9_two pX9_two) 76 (bX9_two_8 cal) :=
  sn_iload_n dX9_two_76 rfl <| sn_iload_n dX9_two_77 rfl <| sn_cmp_ge (tg := 85) dX9_two_78 rfl rfl <| sn_iconst dX9_two_81 rfl <| sn_goto (tg := 86) dX9_two_82 rfl rfl
set_option maxRecDepth 100000 in
theorem sX9_two_9 {G : ab_G} {xs : List Int32} {d : Nat} {cal : ab_F} (hcs : ab_CS G (ab_Z G xs) ab_Mf cal d) : ab_Sd G (ab_Z G xs) (d + 1) (ab_mY mX9_two pX9_two) 85 (bX9_two_9 cal) :=
  sn_iconst dX9_two_85 rfl <| sn_next rfl
set_option maxRecDepth 100000 in
theorem sX9_two_10 {G : ab_G} {xs : List Int32} {d : Nat} {cal : ab_F} (hcs : ab_CS G (ab_Z G xs) ab_Mf cal d) : ab_Sd G (ab_Z G xs) (d + 1) (ab_mY mX9_two pX9_two) 86 (bX9_two_10 cal) :=
  sn_ret dX9_two_86 ab_ri_int
set_option maxRecDepth 100000 in
theorem sX9_two_11 {G : ab_G} {xs : List Int32} {d : Nat} {cal : ab_F} (hcs : ab_CS G (ab_Z G xs) ab_Mf cal d) : ab_Sd G (ab_Z G xs) (d + 1) (ab_mY mX9_two pX9_two) 87 (bX9_two_11 cal) :=
  sn_iload_n dX9_two_87 rfl <| sn_iload_n dX9_two_88 rfl <| sn_cmp_ne (tg := 96) dX9_two_89 rfl rfl <| sn_iconst dX9_two_92 rfl <| sn_goto (tg := 97) dX9_two_93 rfl rfl
set_option maxRecDepth 100000 in
theorem sX9_two_12 {G : ab_G} {xs : List Int32} {d : Nat} {cal : ab_F} (hcs : ab_CS G (ab_Z G xs) ab_Mf cal d) : ab_Sd G (ab_Z G xs) (d + 1) (ab_mY mX9_two pX9_two) 96 (bX9_two_12 cal) :=
  sn_iconst dX9_two_96 rfl <| sn_next rfl
set_option maxRecDepth 100000 in
theorem sX9_two_13 {G : ab_G} {xs : List Int32} {d : Nat} {cal : ab_F} (hcs : ab_CS G (ab_Z G xs) ab_Mf cal d) : ab_Sd G (ab_Z G xs) (d + 1) (ab_mY mX9_two pX9_two) 97 (bX9_two_13 cal) :=
  sn_ret dX9_two_97 ab_ri_int
set_option maxRecDepth 100000 in
theorem sX9_two_14 {G : ab_G} {xs : List Int32} {d : Nat} {cal : ab_F} (hcs : ab_CS G (ab_Z G xs) ab_Mf cal d) : ab_Sd G (ab_Z G xs) (d + 1) (ab_mY mX9_two pX9_two) 98 (bX9_two_14 cal) :=
  sn_iload_n dX9_two_98 rfl <| sn_iload_n dX9_two_99 rfl <| sn_cmp_le (tg := 107) dX9_two_100 rfl rfl <| sn_iconst dX9_two_103 rfl <| sn_goto (tg := 108) dX9_two_104 rfl rfl
set_option maxRecDepth 100000 in
theorem sX9_two_15 {G : ab_G} {xs : List Int32} {d : Nat} {cal : ab_F} (hcs : ab_CS G (ab_Z G xs) ab_Mf cal d) : ab_Sd G (ab_Z G xs) (d + 1) (ab_mY mX9_two pX9_two) 107 (bX9_two_15 cal) :=
  sn_iconst dX9_two_107 rfl <| sn_next rfl
set_option maxRecDepth 100000 in
theorem sX9_two_16 {G : ab_G} {xs : List Int32} {d : Nat} {cal : ab_F} (hcs : ab_CS G (ab_Z G xs) ab_Mf cal d) : ab_Sd G (ab_Z G xs) (d + 1) (ab_mY mX9_two pX9_two) 108 (bX9_two_16 cal) :=
  sn_ret dX9_two_108 ab_ri_int
set_option maxRecDepth 100000 in
theorem sX9_two_17 {G : ab_G} {xs : List Int32} {d : Nat} {cal : ab_F} (hcs : ab_CS G (ab_Z G xs) ab_Mf cal d) : ab_Sd G (ab_Z G xs) (d + 1) (ab_mY mX9_two pX9_two) 109 (bX9_two_17 cal) :=
  sn_iload_n dX9_two_109 rfl <| sn_iload_n dX9_two_110 rfl <| sn_iadd dX9_two_111 <| sn_ret dX9_two_112 ab_ri_int
set_option maxRecDepth 100000 in
theorem sX9_two_18 {G : ab_G} {xs : List Int32} {d : Nat} {cal : ab_F} (hcs : ab_CS G (ab_Z G xs) ab_Mf cal d) : ab_Sd G (ab_Z G xs) (d + 1) (ab_mY mX9_two pX9_two) 113 (bX9_two_18 cal) :=
  sn_iload_n dX9_two_113 rfl <| sn_iload_n dX9_two_114 rfl <| sn_isub dX9_two_115 <| sn_ret dX9_two_116 ab_ri_int
set_option maxRecDepth 100000 in
theorem sX9_two_19 {G : ab_G} {xs : List Int32} {d : Nat} {cal : ab_F} (hcs : ab_CS G (ab_Z G xs) ab_Mf cal d) : ab_Sd G (ab_Z G xs) (d + 1) (ab_mY mX9_two pX9_two) 117 (bX9_two_19 cal) :=
  sn_iload_n dX9_two_117 rfl <| sn_iload_n dX9_two_118 rfl <| sn_imul dX9_two_119 <| sn_ret dX9_two_120 ab_ri_int
set_option maxRecDepth 100000 in
theorem sX9_two_20 {G : ab_G} {xs : List Int32} {d : Nat} {cal : ab_F} (hcs : ab_CS G (ab_Z G xs) ab_Mf cal d) : ab_Sd G (ab_Z G xs) (d + 1) (ab_mY mX9_two pX9_two) 121 (bX9_two_20 cal) :=
  sn_iload_n dX9_two_121 rfl <| sn_if_ne (tg := 129) dX9_two_122 rfl rfl <| sn_iconst dX9_two_125 rfl <| sn_goto (tg := 132) dX9_two_126 rfl rfl
set_option maxRecDepth 100000 in
theorem sX9_two_21 {G : ab_G} {xs : List Int32} {d : Nat} {cal : ab_F} (hcs : ab_CS G (ab_Z G xs) ab_Mf cal d) : ab_Sd G (ab_Z G xs) (d + 1) (ab_mY mX9_two pX9_two) 129 (bX9_two_21 cal) :=
  sn_iload_n dX9_two_129 rfl <| sn_iload_n dX9_two_130 rfl <| sn_idiv dX9_two_131 <| sn_next rfl
set_option maxRecDepth 100000 in
theorem sX9_two_22 {G : ab_G} {xs : List Int32} {d : Nat} {cal : ab_F} (hcs : ab_CS G (ab_Z G xs) ab_Mf cal d) : ab_Sd G (ab_Z G xs) (d + 1) (ab_mY mX9_two pX9_two) 132 (bX9_two_22 cal) :=
  sn_ret dX9_two_132 ab_ri_int
theorem sX9_two {G : ab_G} {xs : List Int32} {d : Nat} {cal : ab_F} (hcs : ab_CS G (ab_Z G xs) ab_Mf cal d) : ab_BS G (ab_Z G xs) (d + 1) (ab_mY mX9_two pX9_two) pX9_two (bX9_two cal) := ⟨sX9_two_0 hcs, sX9_two_1 hcs, sX9_two_2 hcs, sX9_two_3 hcs, sX9_two_4 hcs, sX9_two_5 hcs, sX9_two_6 hcs, sX9_two_7 hcs, sX9_two_8 hcs, sX9_two_9 hcs, sX9_two_10 hcs, sX9_two_11 hcs, sX9_two_12 hcs, sX9_two_13 hcs, sX9_two_14 hcs, sX9_two_15 hcs, sX9_two_16 hcs, sX9_two_17 hcs, sX9_two_18 hcs, sX9_two_19 hcs, sX9_two_20 hcs, sX9_two_21 hcs, sX9_two_22 hcs, trivial⟩
theorem dgX9_worksOut_0 : decode cX9_worksOut 0 = .ok (.iconst 0, 1) ∧ decode cX9_worksOut 1 = .ok (.istore_n 2, 1) ∧ decode cX9_worksOut 2 = .ok (.aload_n 0, 1) ∧ decode cX9_worksOut 3 = .ok (.getfield 9, 3) ∧ decode cX9_worksOut 6 = .ok (.bipush 89, 2) ∧ decode cX9_worksOut 8 = .ok (.iconst 2, 1) ∧ decode cX9_worksOut 9 = .ok (.iload_n 1, 1) ∧ decode cX9_worksOut 10 = .ok (.imul, 1) ∧ decode cX9_worksOut 11 = .ok (.iadd, 1) ∧ decode cX9_worksOut 12 = .ok (.iaload, 1) ∧ decode cX9_worksOut 13 = .ok (.sipush 1000, 3) ∧ decode cX9_worksOut 16 = .ok (.irem, 1) ∧ decode cX9_worksOut 17 = .ok (.istore_n 3, 1) ∧ decode cX9_worksOut 18 = .ok (.iconst 0, 1) ∧ decode cX9_worksOut 19 = .ok (.istore 4, 2) ∧ decode cX9_worksOut 21 = .ok (.iload 4, 2) := by decide +kernel
theorem dX9_worksOut_0 : decode cX9_worksOut 0 = .ok (.iconst 0, 1) := dgX9_worksOut_0.1
theorem dX9_worksOut_1 : decode cX9_worksOut 1 = .ok (.istore_n 2, 1) := dgX9_worksOut_0.2.1
theorem dX9_worksOut_2 : decode cX9_worksOut 2 = .ok (.aload_n 0, 1) := dgX9_worksOut_0.2.2.1
theorem dX9_worksOut_3 : decode cX9_worksOut 3 = .ok (.getfield 9, 3) := dgX9_worksOut_0.2.2.2.1
theorem dX9_worksOut_6 : decode cX9_worksOut 6 = .ok (.bipush 89, 2) := dgX9_worksOut_0.2.2.2.2.1
theorem dX9_worksOut_8 : decode cX9_worksOut 8 = .ok (.iconst 2, 1) := dgX9_worksOut_0.2.2.2.2.2.1
theorem dX9_worksOut_9 : decode cX9_worksOut 9 = .ok (.iload_n 1, 1) := dgX9_worksOut_0.2.2.2.2.2.2.1
theorem dX9_worksOut_10 : decode cX9_worksOut 10 = .ok (.imul, 1) := dgX9_worksOut_0.2.2.2.2.2.2.2.1
theorem dX9_worksOut_11 : decode cX9_worksOut 11 = .ok (.iadd, 1) := dgX9_worksOut_0.2.2.2.2.2.2.2.2.1
theorem dX9_worksOut_12 : decode cX9_worksOut 12 = .ok (.iaload, 1) := dgX9_worksOut_0.2.2.2.2.2.2.2.2.2.1
theorem dX9_worksOut_13 : decode cX9_worksOut 13 = .ok (.sipush 1000, 3) := dgX9_worksOut_0.2.2.2.2.2.2.2.2.2.2.1
theorem dX9_worksOut_16 : decode cX9_worksOut 16 = .ok (.irem, 1) := dgX9_worksOut_0.2.2.2.2.2.2.2.2.2.2.2.1
theorem dX9_worksOut_17 : decode cX9_worksOut 17 = .ok (.istore_n 3, 1) := dgX9_worksOut_0.2.2.2.2.2.2.2.2.2.2.2.2.1
theorem dX9_worksOut_18 : decode cX9_worksOut 18 = .ok (.iconst 0, 1) := dgX9_worksOut_0.2.2.2.2.2.2.2.2.2.2.2.2.2.1
theorem dX9_worksOut_19 : decode cX9_worksOut 19 = .ok (.istore 4, 2) := dgX9_worksOut_0.2.2.2.2.2.2.2.2.2.2.2.2.2.2.1
theorem dX9_worksOut_21 : decode cX9_worksOut 21 = .ok (.iload 4, 2) := dgX9_worksOut_0.2.2.2.2.2.2.2.2.2.2.2.2.2.2.2
theorem dgX9_worksOut_1 : decode cX9_worksOut 23 = .ok (.iload_n 3, 1) ∧ decode cX9_worksOut 24 = .ok (.if_icmp .ge 131, 3) ∧ decode cX9_worksOut 27 = .ok (.aload_n 0, 1) ∧ decode cX9_worksOut 28 = .ok (.getfield 9, 3) ∧ decode cX9_worksOut 31 = .ok (.bipush 117, 2) ∧ decode cX9_worksOut 33 = .ok (.bipush 96, 2) ∧ decode cX9_worksOut 35 = .ok (.iload_n 1, 1) ∧ decode cX9_worksOut 36 = .ok (.imul, 1) ∧ decode cX9_worksOut 37 = .ok (.iadd, 1) ∧ decode cX9_worksOut 38 = .ok (.iload 4, 2) ∧ decode cX9_worksOut 40 = .ok (.iadd, 1) ∧ decode cX9_worksOut 41 = .ok (.iaload, 1) ∧ decode cX9_worksOut 42 = .ok (.istore 5, 2) ∧ decode cX9_worksOut 44 = .ok (.iload 5, 2) ∧ decode cX9_worksOut 46 = .ok (.ifCond .lt 39, 3) ∧ decode cX9_worksOut 49 = .ok (.aload_n 0, 1) := by decide +kernel
theorem dX9_worksOut_23 : decode cX9_worksOut 23 = .ok (.iload_n 3, 1) := dgX9_worksOut_1.1
theorem dX9_worksOut_24 : decode cX9_worksOut 24 = .ok (.if_icmp .ge 131, 3) := dgX9_worksOut_1.2.1
theorem dX9_worksOut_27 : decode cX9_worksOut 27 = .ok (.aload_n 0, 1) := dgX9_worksOut_1.2.2.1
theorem dX9_worksOut_28 : decode cX9_worksOut 28 = .ok (.getfield 9, 3) := dgX9_worksOut_1.2.2.2.1
theorem dX9_worksOut_31 : decode cX9_worksOut 31 = .ok (.bipush 117, 2) := dgX9_worksOut_1.2.2.2.2.1
theorem dX9_worksOut_33 : decode cX9_worksOut 33 = .ok (.bipush 96, 2) := dgX9_worksOut_1.2.2.2.2.2.1
theorem dX9_worksOut_35 : decode cX9_worksOut 35 = .ok (.iload_n 1, 1) := dgX9_worksOut_1.2.2.2.2.2.2.1
theorem dX9_worksOut_36 : decode cX9_worksOut 36 = .ok (.imul, 1) := dgX9_worksOut_1.2.2.2.2.2.2.2.1
theorem dX9_worksOut_37 : decode cX9_worksOut 37 = .ok (.iadd, 1) := dgX9_worksOut_1.2.2.2.2.2.2.2.2.1
theorem dX9_worksOut_38 : decode cX9_worksOut 38 = .ok (.iload 4, 2) := dgX9_worksOut_1.2.2.2.2.2.2.2.2.2.1
theorem dX9_worksOut_40 : decode cX9_worksOut 40 = .ok (.iadd, 1) := dgX9_worksOut_1.2.2.2.2.2.2.2.2.2.2.1
theorem dX9_worksOut_41 : decode cX9_worksOut 41 = .ok (.iaload, 1) := dgX9_worksOut_1.2.2.2.2.2.2.2.2.2.2.2.1
theorem dX9_worksOut_42 : decode cX9_worksOut 42 = .ok (.istore 5, 2) := dgX9_worksOut_1.2.2.2.2.2.2.2.2.2.2.2.2.1
theorem dX9_worksOut_44 : decode cX9_worksOut 44 = .ok (.iload 5, 2) := dgX9_worksOut_1.2.2.2.2.2.2.2.2.2.2.2.2.2.1
theorem dX9_worksOut_46 : decode cX9_worksOut 46 = .ok (.ifCond .lt 39, 3) := dgX9_worksOut_1.2.2.2.2.2.2.2.2.2.2.2.2.2.2.1
theorem dX9_worksOut_49 : decode cX9_worksOut 49 = .ok (.aload_n 0, 1) := dgX9_worksOut_1.2.2.2.2.2.2.2.2.2.2.2.2.2.2.2
theorem dgX9_worksOut_2 : decode cX9_worksOut 50 = .ok (.getfield 52, 3) ∧ decode cX9_worksOut 53 = .ok (.iload_n 2, 1) ∧ decode cX9_worksOut 54 = .ok (.iload 5, 2) ∧ decode cX9_worksOut 56 = .ok (.sipush 10000, 3) ∧ decode cX9_worksOut 59 = .ok (.if_icmp .ge 8, 3) ∧ decode cX9_worksOut 62 = .ok (.iload 5, 2) ∧ decode cX9_worksOut 64 = .ok (.goto 14, 3) ∧ decode cX9_worksOut 67 = .ok (.aload_n 0, 1) ∧ decode cX9_worksOut 68 = .ok (.getfield 55, 3) ∧ decode cX9_worksOut 71 = .ok (.iload 5, 2) ∧ decode cX9_worksOut 73 = .ok (.sipush 10000, 3) ∧ decode cX9_worksOut 76 = .ok (.isub, 1) ∧ decode cX9_worksOut 77 = .ok (.iaload, 1) ∧ decode cX9_worksOut 78 = .ok (.iastore, 1) ∧ decode cX9_worksOut 79 = .ok (.iinc 2 1, 3) ∧ decode cX9_worksOut 82 = .ok (.goto 67, 3) := by decide +kernel
theorem dX9_worksOut_50 : decode cX9_worksOut 50 = .ok (.getfield 52, 3) := dgX9_worksOut_2.1
theorem dX9_worksOut_53 : decode cX9_worksOut 53 = .ok (.iload_n 2, 1) := dgX9_worksOut_2.2.1
theorem dX9_worksOut_54 : decode cX9_worksOut 54 = .ok (.iload 5, 2) := dgX9_worksOut_2.2.2.1
theorem dX9_worksOut_56 : decode cX9_worksOut 56 = .ok (.sipush 10000, 3) := dgX9_worksOut_2.2.2.2.1
theorem dX9_worksOut_59 : decode cX9_worksOut 59 = .ok (.if_icmp .ge 8, 3) := dgX9_worksOut_2.2.2.2.2.1
theorem dX9_worksOut_62 : decode cX9_worksOut 62 = .ok (.iload 5, 2) := dgX9_worksOut_2.2.2.2.2.2.1
theorem dX9_worksOut_64 : decode cX9_worksOut 64 = .ok (.goto 14, 3) := dgX9_worksOut_2.2.2.2.2.2.2.1
theorem dX9_worksOut_67 : decode cX9_worksOut 67 = .ok (.aload_n 0, 1) := dgX9_worksOut_2.2.2.2.2.2.2.2.1
theorem dX9_worksOut_68 : decode cX9_worksOut 68 = .ok (.getfield 55, 3) := dgX9_worksOut_2.2.2.2.2.2.2.2.2.1
theorem dX9_worksOut_71 : decode cX9_worksOut 71 = .ok (.iload 5, 2) := dgX9_worksOut_2.2.2.2.2.2.2.2.2.2.1
theorem dX9_worksOut_73 : decode cX9_worksOut 73 = .ok (.sipush 10000, 3) := dgX9_worksOut_2.2.2.2.2.2.2.2.2.2.2.1
theorem dX9_worksOut_76 : decode cX9_worksOut 76 = .ok (.isub, 1) := dgX9_worksOut_2.2.2.2.2.2.2.2.2.2.2.2.1
theorem dX9_worksOut_77 : decode cX9_worksOut 77 = .ok (.iaload, 1) := dgX9_worksOut_2.2.2.2.2.2.2.2.2.2.2.2.2.1
theorem dX9_worksOut_78 : decode cX9_worksOut 78 = .ok (.iastore, 1) := dgX9_worksOut_2.2.2.2.2.2.2.2.2.2.2.2.2.2.1
theorem dX9_worksOut_79 : decode cX9_worksOut 79 = .ok (.iinc 2 1, 3) := dgX9_worksOut_2.2.2.2.2.2.2.2.2.2.2.2.2.2.2.1
theorem dX9_worksOut_82 : decode cX9_worksOut 82 = .ok (.goto 67, 3) := dgX9_worksOut_2.2.2.2.2.2.2.2.2.2.2.2.2.2.2.2
theorem dgX9_worksOut_3 : decode cX9_worksOut 85 = .ok (.iload 5, 2) ∧ decode cX9_worksOut 87 = .ok (.bipush (-10), 2) ∧ decode cX9_worksOut 89 = .ok (.if_icmp .ne 30, 3) ∧ decode cX9_worksOut 92 = .ok (.aload_n 0, 1) ∧ decode cX9_worksOut 93 = .ok (.getfield 52, 3) ∧ decode cX9_worksOut 96 = .ok (.iload_n 2, 1) ∧ decode cX9_worksOut 97 = .ok (.iconst 1, 1) ∧ decode cX9_worksOut 98 = .ok (.isub, 1) ∧ decode cX9_worksOut 99 = .ok (.aload_n 0, 1) ∧ decode cX9_worksOut 100 = .ok (.getfield 52, 3) ∧ decode cX9_worksOut 103 = .ok (.iload_n 2, 1) ∧ decode cX9_worksOut 104 = .ok (.iconst 1, 1) ∧ decode cX9_worksOut 105 = .ok (.isub, 1) ∧ decode cX9_worksOut 106 = .ok (.iaload, 1) ∧ decode cX9_worksOut 107 = .ok (.ifCond .ne 7, 3) ∧ decode cX9_worksOut 110 = .ok (.iconst 1, 1) := by decide +kernel
theorem dX9_worksOut_85 : decode cX9_worksOut 85 = .ok (.iload 5, 2) := dgX9_worksOut_3.1
theorem dX9_worksOut_87 : decode cX9_worksOut 87 = .ok (.bipush (-10), 2) := dgX9_worksOut_3.2.1
theorem dX9_worksOut_89 : decode cX9_worksOut 89 = .ok (.if_icmp .ne 30, 3) := dgX9_worksOut_3.2.2.1
theorem dX9_worksOut_92 : decode cX9_worksOut 92 = .ok (.aload_n 0, 1) := dgX9_worksOut_3.2.2.2.1
theorem dX9_worksOut_93 : decode cX9_worksOut 93 = .ok (.getfield 52, 3) := dgX9_worksOut_3.2.2.2.2.1
theorem dX9_worksOut_96 : decode cX9_worksOut 96 = .ok (.iload_n 2, 1) := dgX9_worksOut_3.2.2.2.2.2.1
theorem dX9_worksOut_97 : decode cX9_worksOut 97 = .ok (.iconst 1, 1) := dgX9_worksOut_3.2.2.2.2.2.2.1
theorem dX9_worksOut_98 : decode cX9_worksOut 98 = .ok (.isub, 1) := dgX9_worksOut_3.2.2.2.2.2.2.2.1
theorem dX9_worksOut_99 : decode cX9_worksOut 99 = .ok (.aload_n 0, 1) := dgX9_worksOut_3.2.2.2.2.2.2.2.2.1
theorem dX9_worksOut_100 : decode cX9_worksOut 100 = .ok (.getfield 52, 3) := dgX9_worksOut_3.2.2.2.2.2.2.2.2.2.1
theorem dX9_worksOut_103 : decode cX9_worksOut 103 = .ok (.iload_n 2, 1) := dgX9_worksOut_3.2.2.2.2.2.2.2.2.2.2.1
theorem dX9_worksOut_104 : decode cX9_worksOut 104 = .ok (.iconst 1, 1) := dgX9_worksOut_3.2.2.2.2.2.2.2.2.2.2.2.1
theorem dX9_worksOut_105 : decode cX9_worksOut 105 = .ok (.isub, 1) := dgX9_worksOut_3.2.2.2.2.2.2.2.2.2.2.2.2.1
theorem dX9_worksOut_106 : decode cX9_worksOut 106 = .ok (.iaload, 1) := dgX9_worksOut_3.2.2.2.2.2.2.2.2.2.2.2.2.2.1
theorem dX9_worksOut_107 : decode cX9_worksOut 107 = .ok (.ifCond .ne 7, 3) := dgX9_worksOut_3.2.2.2.2.2.2.2.2.2.2.2.2.2.2.1
theorem dX9_worksOut_110 : decode cX9_worksOut 110 = .ok (.iconst 1, 1) := dgX9_worksOut_3.2.2.2.2.2.2.2.2.2.2.2.2.2.2.2
theorem dgX9_worksOut_4 : decode cX9_worksOut 111 = .ok (.goto 4, 3) ∧ decode cX9_worksOut 114 = .ok (.iconst 0, 1) ∧ decode cX9_worksOut 115 = .ok (.iastore, 1) ∧ decode cX9_worksOut 116 = .ok (.goto 33, 3) ∧ decode cX9_worksOut 119 = .ok (.iinc 2 (-1), 3) ∧ decode cX9_worksOut 122 = .ok (.aload_n 0, 1) ∧ decode cX9_worksOut 123 = .ok (.getfield 52, 3) ∧ decode cX9_worksOut 126 = .ok (.iload_n 2, 1) ∧ decode cX9_worksOut 127 = .ok (.iconst 1, 1) ∧ decode cX9_worksOut 128 = .ok (.isub, 1) ∧ decode cX9_worksOut 129 = .ok (.iload 5, 2) ∧ decode cX9_worksOut 131 = .ok (.aload_n 0, 1) ∧ decode cX9_worksOut 132 = .ok (.getfield 52, 3) ∧ decode cX9_worksOut 135 = .ok (.iload_n 2, 1) ∧ decode cX9_worksOut 136 = .ok (.iconst 1, 1) ∧ decode cX9_worksOut 137 = .ok (.isub, 1) := by decide +kernel
theorem dX9_worksOut_111 : decode cX9_worksOut 111 = .ok (.goto 4, 3) := dgX9_worksOut_4.1
theorem dX9_worksOut_114 : decode cX9_worksOut 114 = .ok (.iconst 0, 1) := dgX9_worksOut_4.2.1
theorem dX9_worksOut_115 : decode cX9_worksOut 115 = .ok (.iastore, 1) := dgX9_worksOut_4.2.2.1
theorem dX9_worksOut_116 : decode cX9_worksOut 116 = .ok (.goto 33, 3) := dgX9_worksOut_4.2.2.2.1
theorem dX9_worksOut_119 : decode cX9_worksOut 119 = .ok (.iinc 2 (-1), 3) := dgX9_worksOut_4.2.2.2.2.1
theorem dX9_worksOut_122 : decode cX9_worksOut 122 = .ok (.aload_n 0, 1) := dgX9_worksOut_4.2.2.2.2.2.1
theorem dX9_worksOut_123 : decode cX9_worksOut 123 = .ok (.getfield 52, 3) := dgX9_worksOut_4.2.2.2.2.2.2.1
theorem dX9_worksOut_126 : decode cX9_worksOut 126 = .ok (.iload_n 2, 1) := dgX9_worksOut_4.2.2.2.2.2.2.2.1
theorem dX9_worksOut_127 : decode cX9_worksOut 127 = .ok (.iconst 1, 1) := dgX9_worksOut_4.2.2.2.2.2.2.2.2.1
theorem dX9_worksOut_128 : decode cX9_worksOut 128 = .ok (.isub, 1) := dgX9_worksOut_4.2.2.2.2.2.2.2.2.2.1
theorem dX9_worksOut_129 : decode cX9_worksOut 129 = .ok (.iload 5, 2) := dgX9_worksOut_4.2.2.2.2.2.2.2.2.2.2.1
theorem dX9_worksOut_131 : decode cX9_worksOut 131 = .ok (.aload_n 0, 1) := dgX9_worksOut_4.2.2.2.2.2.2.2.2.2.2.2.1
theorem dX9_worksOut_132 : decode cX9_worksOut 132 = .ok (.getfield 52, 3) := dgX9_worksOut_4.2.2.2.2.2.2.2.2.2.2.2.2.1
theorem dX9_worksOut_135 : decode cX9_worksOut 135 = .ok (.iload_n 2, 1) := dgX9_worksOut_4.2.2.2.2.2.2.2.2.2.2.2.2.2.1
theorem dX9_worksOut_136 : decode cX9_worksOut 136 = .ok (.iconst 1, 1) := dgX9_worksOut_4.2.2.2.2.2.2.2.2.2.2.2.2.2.2.1
theorem dX9_worksOut_137 : decode cX9_worksOut 137 = .ok (.isub, 1) := dgX9_worksOut_4.2.2.2.2.2.2.2.2.2.2.2.2.2.2.2
theorem dgX9_worksOut_5 : decode cX9_worksOut 138 = .ok (.iaload, 1) ∧ decode cX9_worksOut 139 = .ok (.aload_n 0, 1) ∧ decode cX9_worksOut 140 = .ok (.getfield 52, 3) ∧ decode cX9_worksOut 143 = .ok (.iload_n 2, 1) ∧ decode cX9_worksOut 144 = .ok (.iaload, 1) ∧ decode cX9_worksOut 145 = .ok (.invokestatic 277, 3) ∧ decode cX9_worksOut 148 = .ok (.iastore, 1) ∧ decode cX9_worksOut 149 = .ok (.iinc 4 1, 3) ∧ decode cX9_worksOut 152 = .ok (.goto (-131), 3) ∧ decode cX9_worksOut 155 = .ok (.aload_n 0, 1) ∧ decode cX9_worksOut 156 = .ok (.getfield 52, 3) ∧ decode cX9_worksOut 159 = .ok (.iconst 0, 1) ∧ decode cX9_worksOut 160 = .ok (.iaload, 1) ∧ decode cX9_worksOut 161 = .ok (.ireturn, 1) := by decide +kernel
theorem dX9_worksOut_138 : decode cX9_worksOut 138 = .ok (.iaload, 1) := dgX9_worksOut_5.1
theorem dX9_worksOut_139 : decode cX9_worksOut 139 = .ok (.aload_n 0, 1) := dgX9_worksOut_5.2.1
theorem dX9_worksOut_140 : decode cX9_worksOut 140 = .ok (.getfield 52, 3) := dgX9_worksOut_5.2.2.1
theorem dX9_worksOut_143 : decode cX9_worksOut 143 = .ok (.iload_n 2, 1) := dgX9_worksOut_5.2.2.2.1
theorem dX9_worksOut_144 : decode cX9_worksOut 144 = .ok (.iaload, 1) := dgX9_worksOut_5.2.2.2.2.1
theorem dX9_worksOut_145 : decode cX9_worksOut 145 = .ok (.invokestatic 277, 3) := dgX9_worksOut_5.2.2.2.2.2.1
theorem dX9_worksOut_148 : decode cX9_worksOut 148 = .ok (.iastore, 1) := dgX9_worksOut_5.2.2.2.2.2.2.1
theorem dX9_worksOut_149 : decode cX9_worksOut 149 = .ok (.iinc 4 1, 3) := dgX9_worksOut_5.2.2.2.2.2.2.2.1
theorem dX9_worksOut_152 : decode cX9_worksOut 152 = .ok (.goto (-131), 3) := dgX9_worksOut_5.2.2.2.2.2.2.2.2.1
theorem dX9_worksOut_155 : decode cX9_worksOut 155 = .ok (.aload_n 0, 1) := dgX9_worksOut_5.2.2.2.2.2.2.2.2.2.1
theorem dX9_worksOut_156 : decode cX9_worksOut 156 = .ok (.getfield 52, 3) := dgX9_worksOut_5.2.2.2.2.2.2.2.2.2.2.1
theorem dX9_worksOut_159 : decode cX9_worksOut 159 = .ok (.iconst 0, 1) := dgX9_worksOut_5.2.2.2.2.2.2.2.2.2.2.2.1
theorem dX9_worksOut_160 : decode cX9_worksOut 160 = .ok (.iaload, 1) := dgX9_worksOut_5.2.2.2.2.2.2.2.2.2.2.2.2.1
theorem dX9_worksOut_161 : decode cX9_worksOut 161 = .ok (.ireturn, 1) := dgX9_worksOut_5.2.2.2.2.2.2.2.2.2.2.2.2.2
abbrev pX9_worksOut : List Nat := [0, 21, 67, 78, 85, 114, 115, 119, 149, 155]
def bX9_worksOut_0 (cal : ab_F) : ab_K := o_push (.int 0) <| o_istore 2 <| o_aload 0 <| o_getf 8 0 <| o_push (.int 89) <| o_push (.int 2) <| o_iload 1 <| o_bin (fun x y => x * y) <| o_bin (fun x y => x + y) <| o_iald 0 <| o_push (.int 1000) <| o_div (fun x y => x - x / y * y) <| o_istore 3 <| o_push (.int 0) <| o_istore 4 <| o_goto 1
def bX9_worksOut_1 (cal : ab_F) : ab_K := o_iload 4 <| o_iload 3 <| o_cmp (fun x y => decide (y ≤ x)) 9 <| o_aload 0 <| o_getf 8 0 <| o_push (.int 117) <| o_push (.int 96) <| o_iload 1 <| o_bin (fun x y => x * y) <| o_bin (fun x y => x + y) <| o_iload 4 <| o_bin (fun x y => x + y) <| o_iald 0 <| o_istore 5 <| o_iload 5 <| o_if (fun x => decide (x < 0)) 4 <| o_aload 0 <| o_getf 8 24 <| o_iload 2 <| o_iload 5 <| o_push (.int 10000) <| o_cmp (fun x y => decide (y ≤ x)) 2 <| o_iload 5 <| o_goto 3
def bX9_worksOut_2 (cal : ab_F) : ab_K := o_aload 0 <| o_getf 8 25 <| o_iload 5 <| o_push (.int 10000) <| o_bin (fun x y => x - y) <| o_iald 0 <| o_goto 3
def bX9_worksOut_3 (cal : ab_F) : ab_K := o_iast 0 (fun x => x) <| o_iinc 2 1 <| o_goto 8
def bX9_worksOut_4 (cal : ab_F) : ab_K := o_iload 5 <| o_push (.int (-10)) <| o_cmp (fun x y => decide (¬ x = y)) 7 <| o_aload 0 <| o_getf 8 24 <| o_iload 2 <| o_push (.int 1) <| o_bin (fun x y => x - y) <| o_aload 0 <| o_getf 8 24 <| o_iload 2 <| o_push (.int 1) <| o_bin (fun x y => x - y) <| o_iald 0 <| o_if (fun x => decide (¬ x = 0)) 5 <| o_push (.int 1) <| o_goto 6
def bX9_worksOut_5 (cal : ab_F) : ab_K := o_push (.int 0) <| o_goto 6
def bX9_worksOut_6 (cal : ab_F) : ab_K := o_iast 0 (fun x => x) <| o_goto 8
def bX9_worksOut_7 (cal : ab_F) : ab_K := o_iinc 2 (-1) <| o_aload 0 <| o_getf 8 24 <| o_iload 2 <| o_push (.int 1) <| o_bin (fun x y => x - y) <| o_iload 5 <| o_aload 0 <| o_getf 8 24 <| o_iload 2 <| o_push (.int 1) <| o_bin (fun x y => x - y) <| o_iald 0 <| o_aload 0 <| o_getf 8 24 <| o_iload 2 <| o_iald 0 <| o_callS cal 204 3 <| o_iast 0 (fun x => x) <| o_goto 8
def bX9_worksOut_8 (cal : ab_F) : ab_K := o_iinc 4 1 <| o_goto 1
def bX9_worksOut_9 (cal : ab_F) : ab_K := o_aload 0 <| o_getf 8 24 <| o_push (.int 0) <| o_iald 0 <| o_ret (some .int)
def bX9_worksOut (cal : ab_F) : List ab_K := [bX9_worksOut_0 cal, bX9_worksOut_1 cal, bX9_worksOut_2 cal, bX9_worksOut_3 cal, bX9_worksOut_4 cal, bX9_worksOut_5 cal, bX9_worksOut_6 cal, bX9_worksOut_7 cal, bX9_worksOut_8 cal, bX9_worksOut_9 cal]
set_option maxRecDepth 100000 in
theorem sX9_worksOut_0 {G : ab_G} {xs : List Int32} {d : Nat} {cal : ab_F} (hcs : ab_CS G (ab_Z G xs) ab_Mf cal d) : ab_Sd G (ab_Z G xs) (d + 1) (ab_mY mX9_worksOut pX9_worksOut) 0 (bX9_worksOut_0 cal) :=
  sn_iconst dX9_worksOut_0 rfl <| sn_istore_n dX9_worksOut_1 rfl (by decide) <| sn_aload_n dX9_worksOut_2 rfl <| sn_getf dX9_worksOut_3 rfl hinX9 (by decide) w_991 <| sn_bipush dX9_worksOut_6 rfl <| sn_iconst dX9_worksOut_8 rfl <| sn_iload_n dX9_worksOut_9 rfl <| sn_imul dX9_worksOut_10 <| sn_iadd dX9_worksOut_11 <| sn_iald dX9_worksOut_12 rfl <| sn_sipush dX9_worksOut_13 rfl <| sn_irem dX9_worksOut_16 <| sn_istore_n dX9_worksOut_17 rfl (by decide) <| sn_iconst dX9_worksOut_18 rfl <| sn_istore dX9_worksOut_19 (by decide) <| sn_next rfl
set_option maxRecDepth 100000 in
theorem sX9_worksOut_1 {G : ab_G} {xs : List Int32} {d : Nat} {cal : ab_F} (hcs : ab_CS G (ab_Z G xs) ab_Mf cal d) : ab_Sd G (ab_Z G xs) (d + 1) (ab_mY mX9_worksOut pX9_worksOut) 21 (bX9_worksOut_1 cal) :=
  sn_iload dX9_worksOut_21 <| sn_iload_n dX9_worksOut_23 rfl <| sn_cmp_ge (tg := 155) dX9_worksOut_24 rfl rfl <| sn_aload_n dX9_worksOut_27 rfl <| sn_getf dX9_worksOut_28 rfl hinX9 (by decide) w_991 <| sn_bipush dX9_worksOut_31 rfl <| sn_bipush dX9_worksOut_33 rfl <| sn_iload_n dX9_worksOut_35 rfl <| sn_imul dX9_worksOut_36 <| sn_iadd dX9_worksOut_37 <| sn_iload dX9_worksOut_38 <| sn_iadd dX9_worksOut_40 <| sn_iald dX9_worksOut_41 rfl <| sn_istore dX9_worksOut_42 (by decide) <| sn_iload dX9_worksOut_44 <| sn_if_lt (tg := 85) dX9_worksOut_46 rfl rfl <| sn_aload_n dX9_worksOut_49 rfl <| sn_getf dX9_worksOut_50 rfl hinX9 (by decide) w_1015 <| sn_iload_n dX9_worksOut_53 rfl <| sn_iload dX9_worksOut_54 <| sn_sipush dX9_worksOut_56 rfl <| sn_cmp_ge (tg := 67) dX9_worksOut_59 rfl rfl <| sn_iload dX9_worksOut_62 <| sn_goto (tg := 78) dX9_worksOut_64 rfl rfl
set_option maxRecDepth 100000 in
theorem sX9_worksOut_2 {G : ab_G} {xs : List Int32} {d : Nat} {cal : ab_F} (hcs : ab_CS G (ab_Z G xs) ab_Mf cal d) : ab_Sd G (ab_Z G xs) (d + 1) (ab_mY mX9_worksOut pX9_worksOut) 67 (bX9_worksOut_2 cal) :=
  sn_aload_n dX9_worksOut_67 rfl <| sn_getf dX9_worksOut_68 rfl hinX9 (by decide) w_1016 <| sn_iload dX9_worksOut_71 <| sn_sipush dX9_worksOut_73 rfl <| sn_isub dX9_worksOut_76 <| sn_iald dX9_worksOut_77 rfl <| sn_next rfl
set_option maxRecDepth 100000 in
theorem sX9_worksOut_3 {G : ab_G} {xs : List Int32} {d : Nat} {cal : ab_F} (hcs : ab_CS G (ab_Z G xs) ab_Mf cal d) : ab_Sd G (ab_Z G xs) (d + 1) (ab_mY mX9_worksOut pX9_worksOut) 78 (bX9_worksOut_3 cal) :=
  sn_iast dX9_worksOut_78 rfl rfl <| sn_iinc dX9_worksOut_79 rfl (by decide) <| sn_goto (tg := 149) dX9_worksOut_82 rfl rfl
set_option maxRecDepth 100000 in
theorem sX9_worksOut_4 {G : ab_G} {xs : List Int32} {d : Nat} {cal : ab_F} (hcs : ab_CS G (ab_Z G xs) ab_Mf cal d) : ab_Sd G (ab_Z G xs) (d + 1) (ab_mY mX9_worksOut pX9_worksOut) 85 (bX9_worksOut_4 cal) :=
  sn_iload dX9_worksOut_85 <| sn_bipush dX9_worksOut_87 rfl <| sn_cmp_ne (tg := 119) dX9_worksOut_89 rfl rfl <| sn_aload_n dX9_worksOut_92 rfl <| sn_getf dX9_worksOut_93 rfl hinX9 (by decide) w_1015 <| sn_iload_n dX9_worksOut_96 rfl <| sn_iconst dX9_worksOut_97 rfl <| sn_isub dX9_worksOut_98 <| sn_aload_n dX9_worksOut_99 rfl <| sn_getf dX9_worksOut_100 rfl hinX9 (by decide) w_1015 <| sn_iload_n dX9_worksOut_103 rfl <| sn_iconst dX9_worksOut_104 rfl <| sn_isub dX9_worksOut_105 <| sn_iald dX9_worksOut_106 rfl <| sn_if_ne (tg := 114) dX9_worksOut_107 rfl rfl <| sn_iconst dX9_worksOut_110 rfl <| sn_goto (tg := 115) dX9_worksOut_111 rfl rfl
set_option maxRecDepth 100000 in
theorem sX9_worksOut_5 {G : ab_G} {xs : List Int32} {d : Nat} {cal : ab_F} (hcs : ab_CS G (ab_Z G xs) ab_Mf cal d) : ab_Sd G (ab_Z G xs) (d + 1) (ab_mY mX9_worksOut pX9_worksOut) 114 (bX9_worksOut_5 cal) :=
  sn_iconst dX9_worksOut_114 rfl <| sn_next rfl
set_option maxRecDepth 100000 in
theorem sX9_worksOut_6 {G : ab_G} {xs : List Int32} {d : Nat} {cal : ab_F} (hcs : ab_CS G (ab_Z G xs) ab_Mf cal d) : ab_Sd G (ab_Z G xs) (d + 1) (ab_mY mX9_worksOut pX9_worksOut) 115 (bX9_worksOut_6 cal) :=
  sn_iast dX9_worksOut_115 rfl rfl <| sn_goto (tg := 149) dX9_worksOut_116 rfl rfl
set_option maxRecDepth 100000 in
theorem sX9_worksOut_7 {G : ab_G} {xs : List Int32} {d : Nat} {cal : ab_F} (hcs : ab_CS G (ab_Z G xs) ab_Mf cal d) : ab_Sd G (ab_Z G xs) (d + 1) (ab_mY mX9_worksOut pX9_worksOut) 119 (bX9_worksOut_7 cal) :=
  sn_iinc dX9_worksOut_119 rfl (by decide) <| sn_aload_n dX9_worksOut_122 rfl <| sn_getf dX9_worksOut_123 rfl hinX9 (by decide) w_1015 <| sn_iload_n dX9_worksOut_126 rfl <| sn_iconst dX9_worksOut_127 rfl <| sn_isub dX9_worksOut_128 <| sn_iload dX9_worksOut_129 <| sn_aload_n dX9_worksOut_131 rfl <| sn_getf dX9_worksOut_132 rfl hinX9 (by decide) w_1015 <| sn_iload_n dX9_worksOut_135 rfl <| sn_iconst dX9_worksOut_136 rfl <| sn_isub dX9_worksOut_137 <| sn_iald dX9_worksOut_138 rfl <| sn_aload_n dX9_worksOut_139 rfl <| sn_getf dX9_worksOut_140 rfl hinX9 (by decide) w_1015 <| sn_iload_n dX9_worksOut_143 rfl <| sn_iald dX9_worksOut_144 rfl <| sq_callS mt_204 hcs dX9_worksOut_145 w_1162 w_1163 w_63 w_1164 hy_204 hm_204 <| sn_iast dX9_worksOut_148 rfl rfl <| sn_next rfl
set_option maxRecDepth 100000 in
theorem sX9_worksOut_8 {G : ab_G} {xs : List Int32} {d : Nat} {cal : ab_F} (hcs : ab_CS G (ab_Z G xs) ab_Mf cal d) : ab_Sd G (ab_Z G xs) (d + 1) (ab_mY mX9_worksOut pX9_worksOut) 149 (bX9_worksOut_8 cal) :=
  sn_iinc dX9_worksOut_149 rfl (by decide) <| sn_goto (tg := 21) dX9_worksOut_152 rfl rfl
set_option maxRecDepth 100000 in
theorem sX9_worksOut_9 {G : ab_G} {xs : List Int32} {d : Nat} {cal : ab_F} (hcs : ab_CS G (ab_Z G xs) ab_Mf cal d) : ab_Sd G (ab_Z G xs) (d + 1) (ab_mY mX9_worksOut pX9_worksOut) 155 (bX9_worksOut_9 cal) :=
  sn_aload_n dX9_worksOut_155 rfl <| sn_getf dX9_worksOut_156 rfl hinX9 (by decide) w_1015 <| sn_iconst dX9_worksOut_159 rfl <| sn_iald dX9_worksOut_160 rfl <| sn_ret dX9_worksOut_161 ab_ri_int
theorem sX9_worksOut {G : ab_G} {xs : List Int32} {d : Nat} {cal : ab_F} (hcs : ab_CS G (ab_Z G xs) ab_Mf cal d) : ab_BS G (ab_Z G xs) (d + 1) (ab_mY mX9_worksOut pX9_worksOut) pX9_worksOut (bX9_worksOut cal) := ⟨sX9_worksOut_0 hcs, sX9_worksOut_1 hcs, sX9_worksOut_2 hcs, sX9_worksOut_3 hcs, sX9_worksOut_4 hcs, sX9_worksOut_5 hcs, sX9_worksOut_6 hcs, sX9_worksOut_7 hcs, sX9_worksOut_8 hcs, sX9_worksOut_9 hcs, trivial⟩
theorem dgX9_isSheet_0 : decode cX9_isSheet 0 = .ok (.iload_n 0, 1) ∧ decode cX9_isSheet 1 = .ok (.iconst 0, 1) ∧ decode cX9_isSheet 2 = .ok (.iconst 3, 1) ∧ decode cX9_isSheet 3 = .ok (.invokestatic 86, 3) ∧ decode cX9_isSheet 6 = .ok (.ireturn, 1) := by decide +kernel
theorem dX9_isSheet_0 : decode cX9_isSheet 0 = .ok (.iload_n 0, 1) := dgX9_isSheet_0.1
theorem dX9_isSheet_1 : decode cX9_isSheet 1 = .ok (.iconst 0, 1) := dgX9_isSheet_0.2.1
theorem dX9_isSheet_2 : decode cX9_isSheet 2 = .ok (.iconst 3, 1) := dgX9_isSheet_0.2.2.1
theorem dX9_isSheet_3 : decode cX9_isSheet 3 = .ok (.invokestatic 86, 3) := dgX9_isSheet_0.2.2.2.1
theorem dX9_isSheet_6 : decode cX9_isSheet 6 = .ok (.ireturn, 1) := dgX9_isSheet_0.2.2.2.2
abbrev pX9_isSheet : List Nat := [0]
def bX9_isSheet_0 (cal : ab_F) : ab_K := o_iload 0 <| o_push (.int 0) <| o_push (.int 3) <| o_callS cal 128 3 <| o_ret (some .boolean)
def bX9_isSheet (cal : ab_F) : List ab_K := [bX9_isSheet_0 cal]
set_option maxRecDepth 100000 in
theorem sX9_isSheet_0 {G : ab_G} {xs : List Int32} {d : Nat} {cal : ab_F} (hcs : ab_CS G (ab_Z G xs) ab_Mf cal d) : ab_Sd G (ab_Z G xs) (d + 1) (ab_mY mX9_isSheet pX9_isSheet) 0 (bX9_isSheet_0 cal) :=
  sn_iload_n dX9_isSheet_0 rfl <| sn_iconst dX9_isSheet_1 rfl <| sn_iconst dX9_isSheet_2 rfl <| sq_callS mt_128 hcs dX9_isSheet_3 w_1106 w_1107 w_63 w_1108 hy_128 hm_128 <| sn_ret dX9_isSheet_6 ab_ri_bool
theorem sX9_isSheet {G : ab_G} {xs : List Int32} {d : Nat} {cal : ab_F} (hcs : ab_CS G (ab_Z G xs) ab_Mf cal d) : ab_BS G (ab_Z G xs) (d + 1) (ab_mY mX9_isSheet pX9_isSheet) pX9_isSheet (bX9_isSheet cal) := ⟨sX9_isSheet_0 hcs, trivial⟩
theorem dgX9_isSlot_0 : decode cX9_isSlot 0 = .ok (.iload_n 0, 1) ∧ decode cX9_isSlot 1 = .ok (.iconst 0, 1) ∧ decode cX9_isSlot 2 = .ok (.iconst 4, 1) ∧ decode cX9_isSlot 3 = .ok (.invokestatic 86, 3) ∧ decode cX9_isSlot 6 = .ok (.ireturn, 1) := by decide +kernel
theorem dX9_isSlot_0 : decode cX9_isSlot 0 = .ok (.iload_n 0, 1) := dgX9_isSlot_0.1
theorem dX9_isSlot_1 : decode cX9_isSlot 1 = .ok (.iconst 0, 1) := dgX9_isSlot_0.2.1
theorem dX9_isSlot_2 : decode cX9_isSlot 2 = .ok (.iconst 4, 1) := dgX9_isSlot_0.2.2.1
theorem dX9_isSlot_3 : decode cX9_isSlot 3 = .ok (.invokestatic 86, 3) := dgX9_isSlot_0.2.2.2.1
theorem dX9_isSlot_6 : decode cX9_isSlot 6 = .ok (.ireturn, 1) := dgX9_isSlot_0.2.2.2.2
abbrev pX9_isSlot : List Nat := [0]
def bX9_isSlot_0 (cal : ab_F) : ab_K := o_iload 0 <| o_push (.int 0) <| o_push (.int 4) <| o_callS cal 128 3 <| o_ret (some .boolean)
def bX9_isSlot (cal : ab_F) : List ab_K := [bX9_isSlot_0 cal]
set_option maxRecDepth 100000 in
theorem sX9_isSlot_0 {G : ab_G} {xs : List Int32} {d : Nat} {cal : ab_F} (hcs : ab_CS G (ab_Z G xs) ab_Mf cal d) : ab_Sd G (ab_Z G xs) (d + 1) (ab_mY mX9_isSlot pX9_isSlot) 0 (bX9_isSlot_0 cal) :=
  sn_iload_n dX9_isSlot_0 rfl <| sn_iconst dX9_isSlot_1 rfl <| sn_iconst dX9_isSlot_2 rfl <| sq_callS mt_128 hcs dX9_isSlot_3 w_1106 w_1107 w_63 w_1108 hy_128 hm_128 <| sn_ret dX9_isSlot_6 ab_ri_bool
theorem sX9_isSlot {G : ab_G} {xs : List Int32} {d : Nat} {cal : ab_F} (hcs : ab_CS G (ab_Z G xs) ab_Mf cal d) : ab_BS G (ab_Z G xs) (d + 1) (ab_mY mX9_isSlot pX9_isSlot) pX9_isSlot (bX9_isSlot cal) := ⟨sX9_isSlot_0 hcs, trivial⟩
theorem dgX9_sheet_0 : decode cX9_sheet 0 = .ok (.iload_n 1, 1) ∧ decode cX9_sheet 1 = .ok (.invokestatic 206, 3) ∧ decode cX9_sheet 4 = .ok (.ifCond .eq 22, 3) ∧ decode cX9_sheet 7 = .ok (.iload_n 2, 1) ∧ decode cX9_sheet 8 = .ok (.iconst (-1), 1) ∧ decode cX9_sheet 9 = .ok (.iconst 1, 1) ∧ decode cX9_sheet 10 = .ok (.invokestatic 86, 3) ∧ decode cX9_sheet 13 = .ok (.ifCond .eq 13, 3) ∧ decode cX9_sheet 16 = .ok (.iload_n 2, 1) ∧ decode cX9_sheet 17 = .ok (.ifCond .lt 12, 3) ∧ decode cX9_sheet 20 = .ok (.iload_n 3, 1) ∧ decode cX9_sheet 21 = .ok (.bipush 24, 2) ∧ decode cX9_sheet 23 = .ok (.if_icmp .le 6, 3) ∧ decode cX9_sheet 26 = .ok (.ldc 90, 2) ∧ decode cX9_sheet 28 = .ok (.ireturn, 1) ∧ decode cX9_sheet 29 = .ok (.iload_n 2, 1) := by decide +kernel
theorem dX9_sheet_0 : decode cX9_sheet 0 = .ok (.iload_n 1, 1) := dgX9_sheet_0.1
theorem dX9_sheet_1 : decode cX9_sheet 1 = .ok (.invokestatic 206, 3) := dgX9_sheet_0.2.1
theorem dX9_sheet_4 : decode cX9_sheet 4 = .ok (.ifCond .eq 22, 3) := dgX9_sheet_0.2.2.1
theorem dX9_sheet_7 : decode cX9_sheet 7 = .ok (.iload_n 2, 1) := dgX9_sheet_0.2.2.2.1
theorem dX9_sheet_8 : decode cX9_sheet 8 = .ok (.iconst (-1), 1) := dgX9_sheet_0.2.2.2.2.1
theorem dX9_sheet_9 : decode cX9_sheet 9 = .ok (.iconst 1, 1) := dgX9_sheet_0.2.2.2.2.2.1
theorem dX9_sheet_10 : decode cX9_sheet 10 = .ok (.invokestatic 86, 3) := dgX9_sheet_0.2.2.2.2.2.2.1
theorem dX9_sheet_13 : decode cX9_sheet 13 = .ok (.ifCond .eq 13, 3) := dgX9_sheet_0.2.2.2.2.2.2.2.1
theorem dX9_sheet_16 : decode cX9_sheet 16 = .ok (.iload_n 2, 1) := dgX9_sheet_0.2.2.2.2.2.2.2.2.1
theorem dX9_sheet_17 : decode cX9_sheet 17 = .ok (.ifCond .lt 12, 3) := dgX9_sheet_0.2.2.2.2.2.2.2.2.2.1
theorem dX9_sheet_20 : decode cX9_sheet 20 = .ok (.iload_n 3, 1) := dgX9_sheet_0.2.2.2.2.2.2.2.2.2.2.1
theorem dX9_sheet_21 : decode cX9_sheet 21 = .ok (.bipush 24, 2) := dgX9_sheet_0.2.2.2.2.2.2.2.2.2.2.2.1
theorem dX9_sheet_23 : decode cX9_sheet 23 = .ok (.if_icmp .le 6, 3) := dgX9_sheet_0.2.2.2.2.2.2.2.2.2.2.2.2.1
theorem dX9_sheet_26 : decode cX9_sheet 26 = .ok (.ldc 90, 2) := dgX9_sheet_0.2.2.2.2.2.2.2.2.2.2.2.2.2.1
theorem dX9_sheet_28 : decode cX9_sheet 28 = .ok (.ireturn, 1) := dgX9_sheet_0.2.2.2.2.2.2.2.2.2.2.2.2.2.2.1
theorem dX9_sheet_29 : decode cX9_sheet 29 = .ok (.iload_n 2, 1) := dgX9_sheet_0.2.2.2.2.2.2.2.2.2.2.2.2.2.2.2
theorem dgX9_sheet_1 : decode cX9_sheet 30 = .ok (.ifCond .lt 11, 3) ∧ decode cX9_sheet 33 = .ok (.iload_n 3, 1) ∧ decode cX9_sheet 34 = .ok (.ifCond .ge 7, 3) ∧ decode cX9_sheet 37 = .ok (.ldc_w 280, 3) ∧ decode cX9_sheet 40 = .ok (.ireturn, 1) ∧ decode cX9_sheet 41 = .ok (.aload_n 0, 1) ∧ decode cX9_sheet 42 = .ok (.getfield 58, 3) ∧ decode cX9_sheet 45 = .ok (.iload_n 1, 1) ∧ decode cX9_sheet 46 = .ok (.iload_n 2, 1) ∧ decode cX9_sheet 47 = .ok (.iastore, 1) ∧ decode cX9_sheet 48 = .ok (.aload_n 0, 1) ∧ decode cX9_sheet 49 = .ok (.getfield 61, 3) ∧ decode cX9_sheet 52 = .ok (.iload_n 1, 1) ∧ decode cX9_sheet 53 = .ok (.iload_n 2, 1) ∧ decode cX9_sheet 54 = .ok (.ifCond .ge 7, 3) ∧ decode cX9_sheet 57 = .ok (.iconst 0, 1) := by decide +kernel
theorem dX9_sheet_30 : decode cX9_sheet 30 = .ok (.ifCond .lt 11, 3) := dgX9_sheet_1.1
theorem dX9_sheet_33 : decode cX9_sheet 33 = .ok (.iload_n 3, 1) := dgX9_sheet_1.2.1
theorem dX9_sheet_34 : decode cX9_sheet 34 = .ok (.ifCond .ge 7, 3) := dgX9_sheet_1.2.2.1
theorem dX9_sheet_37 : decode cX9_sheet 37 = .ok (.ldc_w 280, 3) := dgX9_sheet_1.2.2.2.1
theorem dX9_sheet_40 : decode cX9_sheet 40 = .ok (.ireturn, 1) := dgX9_sheet_1.2.2.2.2.1
theorem dX9_sheet_41 : decode cX9_sheet 41 = .ok (.aload_n 0, 1) := dgX9_sheet_1.2.2.2.2.2.1
theorem dX9_sheet_42 : decode cX9_sheet 42 = .ok (.getfield 58, 3) := dgX9_sheet_1.2.2.2.2.2.2.1
theorem dX9_sheet_45 : decode cX9_sheet 45 = .ok (.iload_n 1, 1) := dgX9_sheet_1.2.2.2.2.2.2.2.1
theorem dX9_sheet_46 : decode cX9_sheet 46 = .ok (.iload_n 2, 1) := dgX9_sheet_1.2.2.2.2.2.2.2.2.1
theorem dX9_sheet_47 : decode cX9_sheet 47 = .ok (.iastore, 1) := dgX9_sheet_1.2.2.2.2.2.2.2.2.2.1
theorem dX9_sheet_48 : decode cX9_sheet 48 = .ok (.aload_n 0, 1) := dgX9_sheet_1.2.2.2.2.2.2.2.2.2.2.1
theorem dX9_sheet_49 : decode cX9_sheet 49 = .ok (.getfield 61, 3) := dgX9_sheet_1.2.2.2.2.2.2.2.2.2.2.2.1
theorem dX9_sheet_52 : decode cX9_sheet 52 = .ok (.iload_n 1, 1) := dgX9_sheet_1.2.2.2.2.2.2.2.2.2.2.2.2.1
theorem dX9_sheet_53 : decode cX9_sheet 53 = .ok (.iload_n 2, 1) := dgX9_sheet_1.2.2.2.2.2.2.2.2.2.2.2.2.2.1
theorem dX9_sheet_54 : decode cX9_sheet 54 = .ok (.ifCond .ge 7, 3) := dgX9_sheet_1.2.2.2.2.2.2.2.2.2.2.2.2.2.2.1
theorem dX9_sheet_57 : decode cX9_sheet 57 = .ok (.iconst 0, 1) := dgX9_sheet_1.2.2.2.2.2.2.2.2.2.2.2.2.2.2.2
theorem dgX9_sheet_2 : decode cX9_sheet 58 = .ok (.goto 4, 3) ∧ decode cX9_sheet 61 = .ok (.iload_n 3, 1) ∧ decode cX9_sheet 62 = .ok (.iastore, 1) ∧ decode cX9_sheet 63 = .ok (.iconst 0, 1) ∧ decode cX9_sheet 64 = .ok (.istore 4, 2) ∧ decode cX9_sheet 66 = .ok (.iload 4, 2) ∧ decode cX9_sheet 68 = .ok (.bipush 24, 2) ∧ decode cX9_sheet 70 = .ok (.if_icmp .ge 22, 3) ∧ decode cX9_sheet 73 = .ok (.aload_n 0, 1) ∧ decode cX9_sheet 74 = .ok (.getfield 64, 3) ∧ decode cX9_sheet 77 = .ok (.bipush 24, 2) ∧ decode cX9_sheet 79 = .ok (.iload_n 1, 1) ∧ decode cX9_sheet 80 = .ok (.imul, 1) ∧ decode cX9_sheet 81 = .ok (.iload 4, 2) ∧ decode cX9_sheet 83 = .ok (.iadd, 1) ∧ decode cX9_sheet 84 = .ok (.iconst 0, 1) := by decide +kernel
theorem dX9_sheet_58 : decode cX9_sheet 58 = .ok (.goto 4, 3) := dgX9_sheet_2.1
theorem dX9_sheet_61 : decode cX9_sheet 61 = .ok (.iload_n 3, 1) := dgX9_sheet_2.2.1
theorem dX9_sheet_62 : decode cX9_sheet 62 = .ok (.iastore, 1) := dgX9_sheet_2.2.2.1
theorem dX9_sheet_63 : decode cX9_sheet 63 = .ok (.iconst 0, 1) := dgX9_sheet_2.2.2.2.1
theorem dX9_sheet_64 : decode cX9_sheet 64 = .ok (.istore 4, 2) := dgX9_sheet_2.2.2.2.2.1
theorem dX9_sheet_66 : decode cX9_sheet 66 = .ok (.iload 4, 2) := dgX9_sheet_2.2.2.2.2.2.1
theorem dX9_sheet_68 : decode cX9_sheet 68 = .ok (.bipush 24, 2) := dgX9_sheet_2.2.2.2.2.2.2.1
theorem dX9_sheet_70 : decode cX9_sheet 70 = .ok (.if_icmp .ge 22, 3) := dgX9_sheet_2.2.2.2.2.2.2.2.1
theorem dX9_sheet_73 : decode cX9_sheet 73 = .ok (.aload_n 0, 1) := dgX9_sheet_2.2.2.2.2.2.2.2.2.1
theorem dX9_sheet_74 : decode cX9_sheet 74 = .ok (.getfield 64, 3) := dgX9_sheet_2.2.2.2.2.2.2.2.2.2.1
theorem dX9_sheet_77 : decode cX9_sheet 77 = .ok (.bipush 24, 2) := dgX9_sheet_2.2.2.2.2.2.2.2.2.2.2.1
theorem dX9_sheet_79 : decode cX9_sheet 79 = .ok (.iload_n 1, 1) := dgX9_sheet_2.2.2.2.2.2.2.2.2.2.2.2.1
theorem dX9_sheet_80 : decode cX9_sheet 80 = .ok (.imul, 1) := dgX9_sheet_2.2.2.2.2.2.2.2.2.2.2.2.2.1
theorem dX9_sheet_81 : decode cX9_sheet 81 = .ok (.iload 4, 2) := dgX9_sheet_2.2.2.2.2.2.2.2.2.2.2.2.2.2.1
theorem dX9_sheet_83 : decode cX9_sheet 83 = .ok (.iadd, 1) := dgX9_sheet_2.2.2.2.2.2.2.2.2.2.2.2.2.2.2.1
theorem dX9_sheet_84 : decode cX9_sheet 84 = .ok (.iconst 0, 1) := dgX9_sheet_2.2.2.2.2.2.2.2.2.2.2.2.2.2.2.2
theorem dgX9_sheet_3 : decode cX9_sheet 85 = .ok (.iastore, 1) ∧ decode cX9_sheet 86 = .ok (.iinc 4 1, 3) ∧ decode cX9_sheet 89 = .ok (.goto (-23), 3) ∧ decode cX9_sheet 92 = .ok (.aload_n 0, 1) ∧ decode cX9_sheet 93 = .ok (.getfield 61, 3) ∧ decode cX9_sheet 96 = .ok (.iload_n 1, 1) ∧ decode cX9_sheet 97 = .ok (.iaload, 1) ∧ decode cX9_sheet 98 = .ok (.ireturn, 1) := by decide +kernel
theorem dX9_sheet_85 : decode cX9_sheet 85 = .ok (.iastore, 1) := dgX9_sheet_3.1
theorem dX9_sheet_86 : decode cX9_sheet 86 = .ok (.iinc 4 1, 3) := dgX9_sheet_3.2.1
theorem dX9_sheet_89 : decode cX9_sheet 89 = .ok (.goto (-23), 3) := dgX9_sheet_3.2.2.1
theorem dX9_sheet_92 : decode cX9_sheet 92 = .ok (.aload_n 0, 1) := dgX9_sheet_3.2.2.2.1
theorem dX9_sheet_93 : decode cX9_sheet 93 = .ok (.getfield 61, 3) := dgX9_sheet_3.2.2.2.2.1
theorem dX9_sheet_96 : decode cX9_sheet 96 = .ok (.iload_n 1, 1) := dgX9_sheet_3.2.2.2.2.2.1
theorem dX9_sheet_97 : decode cX9_sheet 97 = .ok (.iaload, 1) := dgX9_sheet_3.2.2.2.2.2.2.1
theorem dX9_sheet_98 : decode cX9_sheet 98 = .ok (.ireturn, 1) := dgX9_sheet_3.2.2.2.2.2.2.2
abbrev pX9_sheet : List Nat := [0, 26, 29, 41, 61, 62, 66, 92]
def bX9_sheet_0 (cal : ab_F) : ab_K := o_iload 1 <| o_callS cal 206 1 <| o_if (fun x => decide (x = 0)) 1 <| o_iload 2 <| o_push (.int (-1)) <| o_push (.int 1) <| o_callS cal 128 3 <| o_if (fun x => decide (x = 0)) 1 <| o_iload 2 <| o_if (fun x => decide (x < 0)) 2 <| o_iload 3 <| o_push (.int 24) <| o_cmp (fun x y => decide (x ≤ y)) 2 <| o_goto 1
def bX9_sheet_1 (cal : ab_F) : ab_K := o_push (.int (-1000000001)) <| o_ret (some .int)
def bX9_sheet_2 (cal : ab_F) : ab_K := o_iload 2 <| o_if (fun x => decide (x < 0)) 3 <| o_iload 3 <| o_if (fun x => decide (0 ≤ x)) 3 <| o_push (.int (-1000000014)) <| o_ret (some .int)
def bX9_sheet_3 (cal : ab_F) : ab_K := o_aload 0 <| o_getf 8 26 <| o_iload 1 <| o_iload 2 <| o_iast 0 (fun x => x) <| o_aload 0 <| o_getf 8 27 <| o_iload 1 <| o_iload 2 <| o_if (fun x => decide (0 ≤ x)) 4 <| o_push (.int 0) <| o_goto 5
def bX9_sheet_4 (cal : ab_F) : ab_K := o_iload 3 <| o_goto 5
def bX9_sheet_5 (cal : ab_F) : ab_K := o_iast 0 (fun x => x) <| o_push (.int 0) <| o_istore 4 <| o_goto 6
def bX9_sheet_6 (cal : ab_F) : ab_K := o_iload 4 <| o_push (.int 24) <| o_cmp (fun x y => decide (y ≤ x)) 7 <| o_aload 0 <| o_getf 8 28 <| o_push (.int 24) <| o_iload 1 <| o_bin (fun x y => x * y) <| o_iload 4 <| o_bin (fun x y => x + y) <| o_push (.int 0) <| o_iast 0 (fun x => x) <| o_iinc 4 1 <| o_goto 6
def bX9_sheet_7 (cal : ab_F) : ab_K := o_aload 0 <| o_getf 8 27 <| o_iload 1 <| o_iald 0 <| o_ret (some .int)
def bX9_sheet (cal : ab_F) : List ab_K := [bX9_sheet_0 cal, bX9_sheet_1 cal, bX9_sheet_2 cal, bX9_sheet_3 cal, bX9_sheet_4 cal, bX9_sheet_5 cal, bX9_sheet_6 cal, bX9_sheet_7 cal]
set_option maxRecDepth 100000 in
theorem sX9_sheet_0 {G : ab_G} {xs : List Int32} {d : Nat} {cal : ab_F} (hcs : ab_CS G (ab_Z G xs) ab_Mf cal d) : ab_Sd G (ab_Z G xs) (d + 1) (ab_mY mX9_sheet pX9_sheet) 0 (bX9_sheet_0 cal) :=
  sn_iload_n dX9_sheet_0 rfl <| sq_callS mt_206 hcs dX9_sheet_1 w_1329 w_1330 w_63 w_1331 hy_206 hm_206 <| sn_if_eq (tg := 26) dX9_sheet_4 rfl rfl <| sn_iload_n dX9_sheet_7 rfl <| sn_iconst dX9_sheet_8 rfl <| sn_iconst dX9_sheet_9 rfl <| sq_callS mt_128 hcs dX9_sheet_10 w_1106 w_1107 w_63 w_1108 hy_128 hm_128 <| sn_if_eq (tg := 26) dX9_sheet_13 rfl rfl <| sn_iload_n dX9_sheet_16 rfl <| sn_if_lt (tg := 29) dX9_sheet_17 rfl rfl <| sn_iload_n dX9_sheet_20 rfl <| sn_bipush dX9_sheet_21 rfl <| sn_cmp_le (tg := 29) dX9_sheet_23 rfl rfl <| sn_next rfl
set_option maxRecDepth 100000 in
theorem sX9_sheet_1 {G : ab_G} {xs : List Int32} {d : Nat} {cal : ab_F} (hcs : ab_CS G (ab_Z G xs) ab_Mf cal d) : ab_Sd G (ab_Z G xs) (d + 1) (ab_mY mX9_sheet pX9_sheet) 26 (bX9_sheet_1 cal) :=
  sn_ldc dX9_sheet_26 w_1109 <| sn_ret dX9_sheet_28 ab_ri_int
set_option maxRecDepth 100000 in
theorem sX9_sheet_2 {G : ab_G} {xs : List Int32} {d : Nat} {cal : ab_F} (hcs : ab_CS G (ab_Z G xs) ab_Mf cal d) : ab_Sd G (ab_Z G xs) (d + 1) (ab_mY mX9_sheet pX9_sheet) 29 (bX9_sheet_2 cal) :=
  sn_iload_n dX9_sheet_29 rfl <| sn_if_lt (tg := 41) dX9_sheet_30 rfl rfl <| sn_iload_n dX9_sheet_33 rfl <| sn_if_ge (tg := 41) dX9_sheet_34 rfl rfl <| sn_ldcw dX9_sheet_37 w_1416 <| sn_ret dX9_sheet_40 ab_ri_int
set_option maxRecDepth 100000 in
theorem sX9_sheet_3 {G : ab_G} {xs : List Int32} {d : Nat} {cal : ab_F} (hcs : ab_CS G (ab_Z G xs) ab_Mf cal d) : ab_Sd G (ab_Z G xs) (d + 1) (ab_mY mX9_sheet pX9_sheet) 41 (bX9_sheet_3 cal) :=
  sn_aload_n dX9_sheet_41 rfl <| sn_getf dX9_sheet_42 rfl hinX9 (by decide) w_1017 <| sn_iload_n dX9_sheet_45 rfl <| sn_iload_n dX9_sheet_46 rfl <| sn_iast dX9_sheet_47 rfl rfl <| sn_aload_n dX9_sheet_48 rfl <| sn_getf dX9_sheet_49 rfl hinX9 (by decide) w_1018 <| sn_iload_n dX9_sheet_52 rfl <| sn_iload_n dX9_sheet_53 rfl <| sn_if_ge (tg := 61) dX9_sheet_54 rfl rfl <| sn_iconst dX9_sheet_57 rfl <| sn_goto (tg := 62) dX9_sheet_58 rfl rfl
set_option maxRecDepth 100000 in
theorem sX9_sheet_4 {G : ab_G} {xs : List Int32} {d : Nat} {cal : ab_F} (hcs : ab_CS G (ab_Z G xs) ab_Mf cal d) : ab_Sd G (ab_Z G xs) (d + 1) (ab_mY mX9_sheet pX9_sheet) 61 (bX9_sheet_4 cal) :=
  sn_iload_n dX9_sheet_61 rfl <| sn_next rfl
set_option maxRecDepth 100000 in
theorem sX9_sheet_5 {G : ab_G} {xs : List Int32} {d : Nat} {cal : ab_F} (hcs : ab_CS G (ab_Z G xs) ab_Mf cal d) : ab_Sd G (ab_Z G xs) (d + 1) (ab_mY mX9_sheet pX9_sheet) 62 (bX9_sheet_5 cal) :=
  sn_iast dX9_sheet_62 rfl rfl <| sn_iconst dX9_sheet_63 rfl <| sn_istore dX9_sheet_64 (by decide) <| sn_next rfl
set_option maxRecDepth 100000 in
theorem sX9_sheet_6 {G : ab_G} {xs : List Int32} {d : Nat} {cal : ab_F} (hcs : ab_CS G (ab_Z G xs) ab_Mf cal d) : ab_Sd G (ab_Z G xs) (d + 1) (ab_mY mX9_sheet pX9_sheet) 66 (bX9_sheet_6 cal) :=
  sn_iload dX9_sheet_66 <| sn_bipush dX9_sheet_68 rfl <| sn_cmp_ge (tg := 92) dX9_sheet_70 rfl rfl <| sn_aload_n dX9_sheet_73 rfl <| sn_getf dX9_sheet_74 rfl hinX9 (by decide) w_1019 <| sn_bipush dX9_sheet_77 rfl <| sn_iload_n dX9_sheet_79 rfl <| sn_imul dX9_sheet_80 <| sn_iload dX9_sheet_81 <| sn_iadd dX9_sheet_83 <| sn_iconst dX9_sheet_84 rfl <| sn_iast dX9_sheet_85 rfl rfl <| sn_iinc dX9_sheet_86 rfl (by decide) <| sn_goto (tg := 66) dX9_sheet_89 rfl rfl
set_option maxRecDepth 100000 in
theorem sX9_sheet_7 {G : ab_G} {xs : List Int32} {d : Nat} {cal : ab_F} (hcs : ab_CS G (ab_Z G xs) ab_Mf cal d) : ab_Sd G (ab_Z G xs) (d + 1) (ab_mY mX9_sheet pX9_sheet) 92 (bX9_sheet_7 cal) :=
  sn_aload_n dX9_sheet_92 rfl <| sn_getf dX9_sheet_93 rfl hinX9 (by decide) w_1018 <| sn_iload_n dX9_sheet_96 rfl <| sn_iald dX9_sheet_97 rfl <| sn_ret dX9_sheet_98 ab_ri_int
theorem sX9_sheet {G : ab_G} {xs : List Int32} {d : Nat} {cal : ab_F} (hcs : ab_CS G (ab_Z G xs) ab_Mf cal d) : ab_BS G (ab_Z G xs) (d + 1) (ab_mY mX9_sheet pX9_sheet) pX9_sheet (bX9_sheet cal) := ⟨sX9_sheet_0 hcs, sX9_sheet_1 hcs, sX9_sheet_2 hcs, sX9_sheet_3 hcs, sX9_sheet_4 hcs, sX9_sheet_5 hcs, sX9_sheet_6 hcs, sX9_sheet_7 hcs, trivial⟩
theorem dgX9_mark_0 : decode cX9_mark 0 = .ok (.iload_n 1, 1) ∧ decode cX9_mark 1 = .ok (.invokestatic 206, 3) ∧ decode cX9_mark 4 = .ok (.ifCond .ne 6, 3) ∧ decode cX9_mark 7 = .ok (.ldc 90, 2) ∧ decode cX9_mark 9 = .ok (.ireturn, 1) ∧ decode cX9_mark 10 = .ok (.aload_n 0, 1) ∧ decode cX9_mark 11 = .ok (.getfield 58, 3) ∧ decode cX9_mark 14 = .ok (.iload_n 1, 1) ∧ decode cX9_mark 15 = .ok (.iaload, 1) ∧ decode cX9_mark 16 = .ok (.ifCond .ge 6, 3) ∧ decode cX9_mark 19 = .ok (.ldc 209, 2) ∧ decode cX9_mark 21 = .ok (.ireturn, 1) ∧ decode cX9_mark 22 = .ok (.iload_n 2, 1) ∧ decode cX9_mark 23 = .ok (.iconst 0, 1) ∧ decode cX9_mark 24 = .ok (.aload_n 0, 1) ∧ decode cX9_mark 25 = .ok (.getfield 61, 3) := by decide +kernel
theorem dX9_mark_0 : decode cX9_mark 0 = .ok (.iload_n 1, 1) := dgX9_mark_0.1
theorem dX9_mark_1 : decode cX9_mark 1 = .ok (.invokestatic 206, 3) := dgX9_mark_0.2.1
theorem dX9_mark_4 : decode cX9_mark 4 = .ok (.ifCond .ne 6, 3) := dgX9_mark_0.2.2.1
theorem dX9_mark_7 : decode cX9_mark 7 = .ok (.ldc 90, 2) := dgX9_mark_0.2.2.2.1
theorem dX9_mark_9 : decode cX9_mark 9 = .ok (.ireturn, 1) := dgX9_mark_0.2.2.2.2.1
theorem dX9_mark_10 : decode cX9_mark 10 = .ok (.aload_n 0, 1) := dgX9_mark_0.2.2.2.2.2.1
theorem dX9_mark_11 : decode cX9_mark 11 = .ok (.getfield 58, 3) := dgX9_mark_0.2.2.2.2.2.2.1
theorem dX9_mark_14 : decode cX9_mark 14 = .ok (.iload_n 1, 1) := dgX9_mark_0.2.2.2.2.2.2.2.1
theorem dX9_mark_15 : decode cX9_mark 15 = .ok (.iaload, 1) := dgX9_mark_0.2.2.2.2.2.2.2.2.1
theorem dX9_mark_16 : decode cX9_mark 16 = .ok (.ifCond .ge 6, 3) := dgX9_mark_0.2.2.2.2.2.2.2.2.2.1
theorem dX9_mark_19 : decode cX9_mark 19 = .ok (.ldc 209, 2) := dgX9_mark_0.2.2.2.2.2.2.2.2.2.2.1
theorem dX9_mark_21 : decode cX9_mark 21 = .ok (.ireturn, 1) := dgX9_mark_0.2.2.2.2.2.2.2.2.2.2.2.1
theorem dX9_mark_22 : decode cX9_mark 22 = .ok (.iload_n 2, 1) := dgX9_mark_0.2.2.2.2.2.2.2.2.2.2.2.2.1
theorem dX9_mark_23 : decode cX9_mark 23 = .ok (.iconst 0, 1) := dgX9_mark_0.2.2.2.2.2.2.2.2.2.2.2.2.2.1
theorem dX9_mark_24 : decode cX9_mark 24 = .ok (.aload_n 0, 1) := dgX9_mark_0.2.2.2.2.2.2.2.2.2.2.2.2.2.2.1
theorem dX9_mark_25 : decode cX9_mark 25 = .ok (.getfield 61, 3) := dgX9_mark_0.2.2.2.2.2.2.2.2.2.2.2.2.2.2.2
theorem dgX9_mark_1 : decode cX9_mark 28 = .ok (.iload_n 1, 1) ∧ decode cX9_mark 29 = .ok (.iaload, 1) ∧ decode cX9_mark 30 = .ok (.iconst 1, 1) ∧ decode cX9_mark 31 = .ok (.isub, 1) ∧ decode cX9_mark 32 = .ok (.invokestatic 86, 3) ∧ decode cX9_mark 35 = .ok (.ifCond .ne 7, 3) ∧ decode cX9_mark 38 = .ok (.ldc_w 281, 3) ∧ decode cX9_mark 41 = .ok (.ireturn, 1) ∧ decode cX9_mark 42 = .ok (.aload_n 0, 1) ∧ decode cX9_mark 43 = .ok (.getfield 58, 3) ∧ decode cX9_mark 46 = .ok (.iload_n 1, 1) ∧ decode cX9_mark 47 = .ok (.iaload, 1) ∧ decode cX9_mark 48 = .ok (.ifCond .ne 12, 3) ∧ decode cX9_mark 51 = .ok (.iload_n 3, 1) ∧ decode cX9_mark 52 = .ok (.ldc 85, 2) ∧ decode cX9_mark 54 = .ok (.if_icmp .ne 6, 3) := by decide +kernel
theorem dX9_mark_28 : decode cX9_mark 28 = .ok (.iload_n 1, 1) := dgX9_mark_1.1
theorem dX9_mark_29 : decode cX9_mark 29 = .ok (.iaload, 1) := dgX9_mark_1.2.1
theorem dX9_mark_30 : decode cX9_mark 30 = .ok (.iconst 1, 1) := dgX9_mark_1.2.2.1
theorem dX9_mark_31 : decode cX9_mark 31 = .ok (.isub, 1) := dgX9_mark_1.2.2.2.1
theorem dX9_mark_32 : decode cX9_mark 32 = .ok (.invokestatic 86, 3) := dgX9_mark_1.2.2.2.2.1
theorem dX9_mark_35 : decode cX9_mark 35 = .ok (.ifCond .ne 7, 3) := dgX9_mark_1.2.2.2.2.2.1
theorem dX9_mark_38 : decode cX9_mark 38 = .ok (.ldc_w 281, 3) := dgX9_mark_1.2.2.2.2.2.2.1
theorem dX9_mark_41 : decode cX9_mark 41 = .ok (.ireturn, 1) := dgX9_mark_1.2.2.2.2.2.2.2.1
theorem dX9_mark_42 : decode cX9_mark 42 = .ok (.aload_n 0, 1) := dgX9_mark_1.2.2.2.2.2.2.2.2.1
theorem dX9_mark_43 : decode cX9_mark 43 = .ok (.getfield 58, 3) := dgX9_mark_1.2.2.2.2.2.2.2.2.2.1
theorem dX9_mark_46 : decode cX9_mark 46 = .ok (.iload_n 1, 1) := dgX9_mark_1.2.2.2.2.2.2.2.2.2.2.1
theorem dX9_mark_47 : decode cX9_mark 47 = .ok (.iaload, 1) := dgX9_mark_1.2.2.2.2.2.2.2.2.2.2.2.1
theorem dX9_mark_48 : decode cX9_mark 48 = .ok (.ifCond .ne 12, 3) := dgX9_mark_1.2.2.2.2.2.2.2.2.2.2.2.2.1
theorem dX9_mark_51 : decode cX9_mark 51 = .ok (.iload_n 3, 1) := dgX9_mark_1.2.2.2.2.2.2.2.2.2.2.2.2.2.1
theorem dX9_mark_52 : decode cX9_mark 52 = .ok (.ldc 85, 2) := dgX9_mark_1.2.2.2.2.2.2.2.2.2.2.2.2.2.2.1
theorem dX9_mark_54 : decode cX9_mark 54 = .ok (.if_icmp .ne 6, 3) := dgX9_mark_1.2.2.2.2.2.2.2.2.2.2.2.2.2.2.2
theorem dgX9_mark_2 : decode cX9_mark 57 = .ok (.ldc 139, 2) ∧ decode cX9_mark 59 = .ok (.ireturn, 1) ∧ decode cX9_mark 60 = .ok (.aload_n 0, 1) ∧ decode cX9_mark 61 = .ok (.getfield 58, 3) ∧ decode cX9_mark 64 = .ok (.iload_n 1, 1) ∧ decode cX9_mark 65 = .ok (.iaload, 1) ∧ decode cX9_mark 66 = .ok (.iconst 1, 1) ∧ decode cX9_mark 67 = .ok (.if_icmp .ne 25, 3) ∧ decode cX9_mark 70 = .ok (.iload_n 3, 1) ∧ decode cX9_mark 71 = .ok (.ldc 85, 2) ∧ decode cX9_mark 73 = .ok (.if_icmp .eq 19, 3) ∧ decode cX9_mark 76 = .ok (.iload_n 3, 1) ∧ decode cX9_mark 77 = .ok (.ldc_w 282, 3) ∧ decode cX9_mark 80 = .ok (.ldc_w 283, 3) ∧ decode cX9_mark 83 = .ok (.invokestatic 86, 3) ∧ decode cX9_mark 86 = .ok (.ifCond .ne 6, 3) := by decide +kernel
theorem dX9_mark_57 : decode cX9_mark 57 = .ok (.ldc 139, 2) := dgX9_mark_2.1
theorem dX9_mark_59 : decode cX9_mark 59 = .ok (.ireturn, 1) := dgX9_mark_2.2.1
theorem dX9_mark_60 : decode cX9_mark 60 = .ok (.aload_n 0, 1) := dgX9_mark_2.2.2.1
theorem dX9_mark_61 : decode cX9_mark 61 = .ok (.getfield 58, 3) := dgX9_mark_2.2.2.2.1
theorem dX9_mark_64 : decode cX9_mark 64 = .ok (.iload_n 1, 1) := dgX9_mark_2.2.2.2.2.1
theorem dX9_mark_65 : decode cX9_mark 65 = .ok (.iaload, 1) := dgX9_mark_2.2.2.2.2.2.1
theorem dX9_mark_66 : decode cX9_mark 66 = .ok (.iconst 1, 1) := dgX9_mark_2.2.2.2.2.2.2.1
theorem dX9_mark_67 : decode cX9_mark 67 = .ok (.if_icmp .ne 25, 3) := dgX9_mark_2.2.2.2.2.2.2.2.1
theorem dX9_mark_70 : decode cX9_mark 70 = .ok (.iload_n 3, 1) := dgX9_mark_2.2.2.2.2.2.2.2.2.1
theorem dX9_mark_71 : decode cX9_mark 71 = .ok (.ldc 85, 2) := dgX9_mark_2.2.2.2.2.2.2.2.2.2.1
theorem dX9_mark_73 : decode cX9_mark 73 = .ok (.if_icmp .eq 19, 3) := dgX9_mark_2.2.2.2.2.2.2.2.2.2.2.1
theorem dX9_mark_76 : decode cX9_mark 76 = .ok (.iload_n 3, 1) := dgX9_mark_2.2.2.2.2.2.2.2.2.2.2.2.1
theorem dX9_mark_77 : decode cX9_mark 77 = .ok (.ldc_w 282, 3) := dgX9_mark_2.2.2.2.2.2.2.2.2.2.2.2.2.1
theorem dX9_mark_80 : decode cX9_mark 80 = .ok (.ldc_w 283, 3) := dgX9_mark_2.2.2.2.2.2.2.2.2.2.2.2.2.2.1
theorem dX9_mark_83 : decode cX9_mark 83 = .ok (.invokestatic 86, 3) := dgX9_mark_2.2.2.2.2.2.2.2.2.2.2.2.2.2.2.1
theorem dX9_mark_86 : decode cX9_mark 86 = .ok (.ifCond .ne 6, 3) := dgX9_mark_2.2.2.2.2.2.2.2.2.2.2.2.2.2.2.2
theorem dgX9_mark_3 : decode cX9_mark 89 = .ok (.ldc 90, 2) ∧ decode cX9_mark 91 = .ok (.ireturn, 1) ∧ decode cX9_mark 92 = .ok (.aload_n 0, 1) ∧ decode cX9_mark 93 = .ok (.getfield 64, 3) ∧ decode cX9_mark 96 = .ok (.bipush 24, 2) ∧ decode cX9_mark 98 = .ok (.iload_n 1, 1) ∧ decode cX9_mark 99 = .ok (.imul, 1) ∧ decode cX9_mark 100 = .ok (.iload_n 2, 1) ∧ decode cX9_mark 101 = .ok (.iadd, 1) ∧ decode cX9_mark 102 = .ok (.aload_n 0, 1) ∧ decode cX9_mark 103 = .ok (.getfield 58, 3) ∧ decode cX9_mark 106 = .ok (.iload_n 1, 1) ∧ decode cX9_mark 107 = .ok (.iaload, 1) ∧ decode cX9_mark 108 = .ok (.ifCond .ne 8, 3) ∧ decode cX9_mark 111 = .ok (.iload_n 3, 1) ∧ decode cX9_mark 112 = .ok (.i2s, 1) := by decide +kernel
theorem dX9_mark_89 : decode cX9_mark 89 = .ok (.ldc 90, 2) := dgX9_mark_3.1
theorem dX9_mark_91 : decode cX9_mark 91 = .ok (.ireturn, 1) := dgX9_mark_3.2.1
theorem dX9_mark_92 : decode cX9_mark 92 = .ok (.aload_n 0, 1) := dgX9_mark_3.2.2.1
theorem dX9_mark_93 : decode cX9_mark 93 = .ok (.getfield 64, 3) := dgX9_mark_3.2.2.2.1
theorem dX9_mark_96 : decode cX9_mark 96 = .ok (.bipush 24, 2) := dgX9_mark_3.2.2.2.2.1
theorem dX9_mark_98 : decode cX9_mark 98 = .ok (.iload_n 1, 1) := dgX9_mark_3.2.2.2.2.2.1
theorem dX9_mark_99 : decode cX9_mark 99 = .ok (.imul, 1) := dgX9_mark_3.2.2.2.2.2.2.1
theorem dX9_mark_100 : decode cX9_mark 100 = .ok (.iload_n 2, 1) := dgX9_mark_3.2.2.2.2.2.2.2.1
theorem dX9_mark_101 : decode cX9_mark 101 = .ok (.iadd, 1) := dgX9_mark_3.2.2.2.2.2.2.2.2.1
theorem dX9_mark_102 : decode cX9_mark 102 = .ok (.aload_n 0, 1) := dgX9_mark_3.2.2.2.2.2.2.2.2.2.1
theorem dX9_mark_103 : decode cX9_mark 103 = .ok (.getfield 58, 3) := dgX9_mark_3.2.2.2.2.2.2.2.2.2.2.1
theorem dX9_mark_106 : decode cX9_mark 106 = .ok (.iload_n 1, 1) := dgX9_mark_3.2.2.2.2.2.2.2.2.2.2.2.1
theorem dX9_mark_107 : decode cX9_mark 107 = .ok (.iaload, 1) := dgX9_mark_3.2.2.2.2.2.2.2.2.2.2.2.2.1
theorem dX9_mark_108 : decode cX9_mark 108 = .ok (.ifCond .ne 8, 3) := dgX9_mark_3.2.2.2.2.2.2.2.2.2.2.2.2.2.1
theorem dX9_mark_111 : decode cX9_mark 111 = .ok (.iload_n 3, 1) := dgX9_mark_3.2.2.2.2.2.2.2.2.2.2.2.2.2.2.1
theorem dX9_mark_112 : decode cX9_mark 112 = .ok (.i2s, 1) := dgX9_mark_3.2.2.2.2.2.2.2.2.2.2.2.2.2.2.2
theorem dgX9_mark_4 : decode cX9_mark 113 = .ok (.goto 4, 3) ∧ decode cX9_mark 116 = .ok (.iload_n 3, 1) ∧ decode cX9_mark 117 = .ok (.iastore, 1) ∧ decode cX9_mark 118 = .ok (.iconst 1, 1) ∧ decode cX9_mark 119 = .ok (.ireturn, 1) := by decide +kernel
theorem dX9_mark_113 : decode cX9_mark 113 = .ok (.goto 4, 3) := dgX9_mark_4.1
theorem dX9_mark_116 : decode cX9_mark 116 = .ok (.iload_n 3, 1) := dgX9_mark_4.2.1
theorem dX9_mark_117 : decode cX9_mark 117 = .ok (.iastore, 1) := dgX9_mark_4.2.2.1
theorem dX9_mark_118 : decode cX9_mark 118 = .ok (.iconst 1, 1) := dgX9_mark_4.2.2.2.1
theorem dX9_mark_119 : decode cX9_mark 119 = .ok (.ireturn, 1) := dgX9_mark_4.2.2.2.2
abbrev pX9_mark : List Nat := [0, 10, 22, 42, 60, 92, 116, 117]
def bX9_mark_0 (cal : ab_F) : ab_K := o_iload 1 <| o_callS cal 206 1 <| o_if (fun x => decide (¬ x = 0)) 1 <| o_push (.int (-1000000001)) <| o_ret (some .int)
def bX9_mark_1 (cal : ab_F) : ab_K := o_aload 0 <| o_getf 8 26 <| o_iload 1 <| o_iald 0 <| o_if (fun x => decide (0 ≤ x)) 2 <| o_push (.int (-1000000011)) <| o_ret (some .int)
def bX9_mark_2 (cal : ab_F) : ab_K := o_iload 2 <| o_push (.int 0) <| o_aload 0 <| o_getf 8 27 <| o_iload 1 <| o_iald 0 <| o_push (.int 1) <| o_bin (fun x y => x - y) <| o_callS cal 128 3 <| o_if (fun x => decide (¬ x = 0)) 3 <| o_push (.int (-1000000013)) <| o_ret (some .int)
def bX9_mark_3 (cal : ab_F) : ab_K := o_aload 0 <| o_getf 8 26 <| o_iload 1 <| o_iald 0 <| o_if (fun x => decide (¬ x = 0)) 4 <| o_iload 3 <| o_push (.int (-1000000005)) <| o_cmp (fun x y => decide (¬ x = y)) 4 <| o_push (.int (-1000000012)) <| o_ret (some .int)
def bX9_mark_4 (cal : ab_F) : ab_K := o_aload 0 <| o_getf 8 26 <| o_iload 1 <| o_iald 0 <| o_push (.int 1) <| o_cmp (fun x y => decide (¬ x = y)) 5 <| o_iload 3 <| o_push (.int (-1000000005)) <| o_cmp (fun x y => decide (x = y)) 5 <| o_iload 3 <| o_push (.int (-99999)) <| o_push (.int 99999) <| o_callS cal 128 3 <| o_if (fun x => decide (¬ x = 0)) 5 <| o_push (.int (-1000000001)) <| o_ret (some .int)
def bX9_mark_5 (cal : ab_F) : ab_K := o_aload 0 <| o_getf 8 28 <| o_push (.int 24) <| o_iload 1 <| o_bin (fun x y => x * y) <| o_iload 2 <| o_bin (fun x y => x + y) <| o_aload 0 <| o_getf 8 26 <| o_iload 1 <| o_iald 0 <| o_if (fun x => decide (¬ x = 0)) 6 <| o_iload 3 <| o_un (fun x => x.toInt16.toInt32) <| o_goto 7
def bX9_mark_6 (cal : ab_F) : ab_K := o_iload 3 <| o_goto 7
def bX9_mark_7 (cal : ab_F) : ab_K := o_iast 0 (fun x => x) <| o_push (.int 1) <| o_ret (some .int)
def bX9_mark (cal : ab_F) : List ab_K := [bX9_mark_0 cal, bX9_mark_1 cal, bX9_mark_2 cal, bX9_mark_3 cal, bX9_mark_4 cal, bX9_mark_5 cal, bX9_mark_6 cal, bX9_mark_7 cal]
set_option maxRecDepth 100000 in
theorem sX9_mark_0 {G : ab_G} {xs : List Int32} {d : Nat} {cal : ab_F} (hcs : ab_CS G (ab_Z G xs) ab_Mf cal d) : ab_Sd G (ab_Z G xs) (d + 1) (ab_mY mX9_mark pX9_mark) 0 (bX9_mark_0 cal) :=
  sn_iload_n dX9_mark_0 rfl <| sq_callS mt_206 hcs dX9_mark_1 w_1329 w_1330 w_63 w_1331 hy_206 hm_206 <| sn_if_ne (tg := 10) dX9_mark_4 rfl rfl <| sn_ldc dX9_mark_7 w_1109 <| sn_ret dX9_mark_9 ab_ri_int
set_option maxRecDepth 100000 in
theorem sX9_mark_1 {G : ab_G} {xs : List Int32} {d : Nat} {cal : ab_F} (hcs : ab_CS G (ab_Z G xs) ab_Mf cal d) : ab_Sd G (ab_Z G xs) (d + 1) (ab_mY mX9_mark pX9_mark) 10 (bX9_mark_1 cal) :=
  sn_aload_n dX9_mark_10 rfl <| sn_getf dX9_mark_11 rfl hinX9 (by decide) w_1017 <| sn_iload_n dX9_mark_14 rfl <| sn_iald dX9_mark_15 rfl <| sn_if_ge (tg := 22) dX9_mark_16 rfl rfl <| sn_ldc dX9_mark_19 w_1332 <| sn_ret dX9_mark_21 ab_ri_int
set_option maxRecDepth 100000 in
theorem sX9_mark_2 {G : ab_G} {xs : List Int32} {d : Nat} {cal : ab_F} (hcs : ab_CS G (ab_Z G xs) ab_Mf cal d) : ab_Sd G (ab_Z G xs) (d + 1) (ab_mY mX9_mark pX9_mark) 22 (bX9_mark_2 cal) :=
  sn_iload_n dX9_mark_22 rfl <| sn_iconst dX9_mark_23 rfl <| sn_aload_n dX9_mark_24 rfl <| sn_getf dX9_mark_25 rfl hinX9 (by decide) w_1018 <| sn_iload_n dX9_mark_28 rfl <| sn_iald dX9_mark_29 rfl <| sn_iconst dX9_mark_30 rfl <| sn_isub dX9_mark_31 <| sq_callS mt_128 hcs dX9_mark_32 w_1106 w_1107 w_63 w_1108 hy_128 hm_128 <| sn_if_ne (tg := 42) dX9_mark_35 rfl rfl <| sn_ldcw dX9_mark_38 w_1421 <| sn_ret dX9_mark_41 ab_ri_int
set_option maxRecDepth 100000 in
theorem sX9_mark_3 {G : ab_G} {xs : List Int32} {d : Nat} {cal : ab_F} (hcs : ab_CS G (ab_Z G xs) ab_Mf cal d) : ab_Sd G (ab_Z G xs) (d + 1) (ab_mY mX9_mark pX9_mark) 42 (bX9_mark_3 cal) :=
  sn_aload_n dX9_mark_42 rfl <| sn_getf dX9_mark_43 rfl hinX9 (by decide) w_1017 <| sn_iload_n dX9_mark_46 rfl <| sn_iald dX9_mark_47 rfl <| sn_if_ne (tg := 60) dX9_mark_48 rfl rfl <| sn_iload_n dX9_mark_51 rfl <| sn_ldc dX9_mark_52 w_1260 <| sn_cmp_ne (tg := 60) dX9_mark_54 rfl rfl <| sn_ldc dX9_mark_57 w_1178 <| sn_ret dX9_mark_59 ab_ri_int
set_option maxRecDepth 100000 in
theorem sX9_mark_4 {G : ab_G} {xs : List Int32} {d : Nat} {cal : ab_F} (hcs : ab_CS G (ab_Z G xs) ab_Mf cal d) : ab_Sd G (ab_Z G xs) (d + 1) (ab_mY mX9_mark pX9_mark) 60 (bX9_mark_4 cal) :=
  sn_aload_n dX9_mark_60 rfl <| sn_getf dX9_mark_61 rfl hinX9 (by decide) w_1017 <| sn_iload_n dX9_mark_64 rfl <| sn_iald dX9_mark_65 rfl <| sn_iconst dX9_mark_66 rfl <| sn_cmp_ne (tg := 92) dX9_mark_67 rfl rfl <| sn_iload_n dX9_mark_70 rfl <| sn_ldc dX9_mark_71 w_1260 <| sn_cmp_eq (tg := 92) dX9_mark_73 rfl rfl <| sn_iload_n dX9_mark_76 rfl <| sn_ldcw dX9_mark_77 w_1422 <| sn_ldcw dX9_mark_80 w_1423 <| sq_callS mt_128 hcs dX9_mark_83 w_1106 w_1107 w_63 w_1108 hy_128 hm_128 <| sn_if_ne (tg := 92) dX9_mark_86 rfl rfl <| sn_ldc dX9_mark_89 w_1109 <| sn_ret dX9_mark_91 ab_ri_int
set_option maxRecDepth 100000 in
theorem sX9_mark_5 {G : ab_G} {xs : List Int32} {d : Nat} {cal : ab_F} (hcs : ab_CS G (ab_Z G xs) ab_Mf cal d) : ab_Sd G (ab_Z G xs) (d + 1) (ab_mY mX9_mark pX9_mark) 92 (bX9_mark_5 cal) :=
  sn_aload_n dX9_mark_92 rfl <| sn_getf dX9_mark_93 rfl hinX9 (by decide) w_1019 <| sn_bipush dX9_mark_96 rfl <| sn_iload_n dX9_mark_98 rfl <| sn_imul dX9_mark_99 <| sn_iload_n dX9_mark_100 rfl <| sn_iadd dX9_mark_101 <| sn_aload_n dX9_mark_102 rfl <| sn_getf dX9_mark_103 rfl hinX9 (by decide) w_1017 <| sn_iload_n dX9_mark_106 rfl <| sn_iald dX9_mark_107 rfl <| sn_if_ne (tg := 116) dX9_mark_108 rfl rfl <| sn_iload_n dX9_mark_111 rfl <| sn_i2s dX9_mark_112 <| sn_goto (tg := 117) dX9_mark_113 rfl rfl
set_option maxRecDepth 100000 in
theorem sX9_mark_6 {G : ab_G} {xs : List Int32} {d : Nat} {cal : ab_F} (hcs : ab_CS G (ab_Z G xs) ab_Mf cal d) : ab_Sd G (ab_Z G xs) (d + 1) (ab_mY mX9_mark pX9_mark) 116 (bX9_mark_6 cal) :=
  sn_iload_n dX9_mark_116 rfl <| sn_next rfl
set_option maxRecDepth 100000 in
theorem sX9_mark_7 {G : ab_G} {xs : List Int32} {d : Nat} {cal : ab_F} (hcs : ab_CS G (ab_Z G xs) ab_Mf cal d) : ab_Sd G (ab_Z G xs) (d + 1) (ab_mY mX9_mark pX9_mark) 117 (bX9_mark_7 cal) :=
  sn_iast dX9_mark_117 rfl rfl <| sn_iconst dX9_mark_118 rfl <| sn_ret dX9_mark_119 ab_ri_int
theorem sX9_mark {G : ab_G} {xs : List Int32} {d : Nat} {cal : ab_F} (hcs : ab_CS G (ab_Z G xs) ab_Mf cal d) : ab_BS G (ab_Z G xs) (d + 1) (ab_mY mX9_mark pX9_mark) pX9_mark (bX9_mark cal) := ⟨sX9_mark_0 hcs, sX9_mark_1 hcs, sX9_mark_2 hcs, sX9_mark_3 hcs, sX9_mark_4 hcs, sX9_mark_5 hcs, sX9_mark_6 hcs, sX9_mark_7 hcs, trivial⟩
theorem dgX9_pour_0 : decode cX9_pour 0 = .ok (.iload_n 1, 1) ∧ decode cX9_pour 1 = .ok (.invokestatic 206, 3) ∧ decode cX9_pour 4 = .ok (.ifCond .ne 6, 3) ∧ decode cX9_pour 7 = .ok (.ldc 90, 2) ∧ decode cX9_pour 9 = .ok (.ireturn, 1) ∧ decode cX9_pour 10 = .ok (.aload_n 0, 1) ∧ decode cX9_pour 11 = .ok (.getfield 58, 3) ∧ decode cX9_pour 14 = .ok (.iload_n 1, 1) ∧ decode cX9_pour 15 = .ok (.iaload, 1) ∧ decode cX9_pour 16 = .ok (.ifCond .ge 6, 3) ∧ decode cX9_pour 19 = .ok (.ldc 209, 2) ∧ decode cX9_pour 21 = .ok (.ireturn, 1) ∧ decode cX9_pour 22 = .ok (.iconst 0, 1) ∧ decode cX9_pour 23 = .ok (.istore_n 2, 1) ∧ decode cX9_pour 24 = .ok (.iconst 0, 1) ∧ decode cX9_pour 25 = .ok (.istore_n 3, 1) := by decide +kernel
theorem dX9_pour_0 : decode cX9_pour 0 = .ok (.iload_n 1, 1) := dgX9_pour_0.1
theorem dX9_pour_1 : decode cX9_pour 1 = .ok (.invokestatic 206, 3) := dgX9_pour_0.2.1
theorem dX9_pour_4 : decode cX9_pour 4 = .ok (.ifCond .ne 6, 3) := dgX9_pour_0.2.2.1
theorem dX9_pour_7 : decode cX9_pour 7 = .ok (.ldc 90, 2) := dgX9_pour_0.2.2.2.1
theorem dX9_pour_9 : decode cX9_pour 9 = .ok (.ireturn, 1) := dgX9_pour_0.2.2.2.2.1
theorem dX9_pour_10 : decode cX9_pour 10 = .ok (.aload_n 0, 1) := dgX9_pour_0.2.2.2.2.2.1
theorem dX9_pour_11 : decode cX9_pour 11 = .ok (.getfield 58, 3) := dgX9_pour_0.2.2.2.2.2.2.1
theorem dX9_pour_14 : decode cX9_pour 14 = .ok (.iload_n 1, 1) := dgX9_pour_0.2.2.2.2.2.2.2.1
theorem dX9_pour_15 : decode cX9_pour 15 = .ok (.iaload, 1) := dgX9_pour_0.2.2.2.2.2.2.2.2.1
theorem dX9_pour_16 : decode cX9_pour 16 = .ok (.ifCond .ge 6, 3) := dgX9_pour_0.2.2.2.2.2.2.2.2.2.1
theorem dX9_pour_19 : decode cX9_pour 19 = .ok (.ldc 209, 2) := dgX9_pour_0.2.2.2.2.2.2.2.2.2.2.1
theorem dX9_pour_21 : decode cX9_pour 21 = .ok (.ireturn, 1) := dgX9_pour_0.2.2.2.2.2.2.2.2.2.2.2.1
theorem dX9_pour_22 : decode cX9_pour 22 = .ok (.iconst 0, 1) := dgX9_pour_0.2.2.2.2.2.2.2.2.2.2.2.2.1
theorem dX9_pour_23 : decode cX9_pour 23 = .ok (.istore_n 2, 1) := dgX9_pour_0.2.2.2.2.2.2.2.2.2.2.2.2.2.1
theorem dX9_pour_24 : decode cX9_pour 24 = .ok (.iconst 0, 1) := dgX9_pour_0.2.2.2.2.2.2.2.2.2.2.2.2.2.2.1
theorem dX9_pour_25 : decode cX9_pour 25 = .ok (.istore_n 3, 1) := dgX9_pour_0.2.2.2.2.2.2.2.2.2.2.2.2.2.2.2
theorem dgX9_pour_1 : decode cX9_pour 26 = .ok (.iload_n 3, 1) ∧ decode cX9_pour 27 = .ok (.aload_n 0, 1) ∧ decode cX9_pour 28 = .ok (.getfield 61, 3) ∧ decode cX9_pour 31 = .ok (.iload_n 1, 1) ∧ decode cX9_pour 32 = .ok (.iaload, 1) ∧ decode cX9_pour 33 = .ok (.if_icmp .ge 72, 3) ∧ decode cX9_pour 36 = .ok (.aload_n 0, 1) ∧ decode cX9_pour 37 = .ok (.getfield 64, 3) ∧ decode cX9_pour 40 = .ok (.bipush 24, 2) ∧ decode cX9_pour 42 = .ok (.iload_n 1, 1) ∧ decode cX9_pour 43 = .ok (.imul, 1) ∧ decode cX9_pour 44 = .ok (.iload_n 3, 1) ∧ decode cX9_pour 45 = .ok (.iadd, 1) ∧ decode cX9_pour 46 = .ok (.iaload, 1) ∧ decode cX9_pour 47 = .ok (.istore 4, 2) ∧ decode cX9_pour 49 = .ok (.iload 4, 2) := by decide +kernel
theorem dX9_pour_26 : decode cX9_pour 26 = .ok (.iload_n 3, 1) := dgX9_pour_1.1
theorem dX9_pour_27 : decode cX9_pour 27 = .ok (.aload_n 0, 1) := dgX9_pour_1.2.1
theorem dX9_pour_28 : decode cX9_pour 28 = .ok (.getfield 61, 3) := dgX9_pour_1.2.2.1
theorem dX9_pour_31 : decode cX9_pour 31 = .ok (.iload_n 1, 1) := dgX9_pour_1.2.2.2.1
theorem dX9_pour_32 : decode cX9_pour 32 = .ok (.iaload, 1) := dgX9_pour_1.2.2.2.2.1
theorem dX9_pour_33 : decode cX9_pour 33 = .ok (.if_icmp .ge 72, 3) := dgX9_pour_1.2.2.2.2.2.1
theorem dX9_pour_36 : decode cX9_pour 36 = .ok (.aload_n 0, 1) := dgX9_pour_1.2.2.2.2.2.2.1
theorem dX9_pour_37 : decode cX9_pour 37 = .ok (.getfield 64, 3) := dgX9_pour_1.2.2.2.2.2.2.2.1
theorem dX9_pour_40 : decode cX9_pour 40 = .ok (.bipush 24, 2) := dgX9_pour_1.2.2.2.2.2.2.2.2.1
theorem dX9_pour_42 : decode cX9_pour 42 = .ok (.iload_n 1, 1) := dgX9_pour_1.2.2.2.2.2.2.2.2.2.1
theorem dX9_pour_43 : decode cX9_pour 43 = .ok (.imul, 1) := dgX9_pour_1.2.2.2.2.2.2.2.2.2.2.1
theorem dX9_pour_44 : decode cX9_pour 44 = .ok (.iload_n 3, 1) := dgX9_pour_1.2.2.2.2.2.2.2.2.2.2.2.1
theorem dX9_pour_45 : decode cX9_pour 45 = .ok (.iadd, 1) := dgX9_pour_1.2.2.2.2.2.2.2.2.2.2.2.2.1
theorem dX9_pour_46 : decode cX9_pour 46 = .ok (.iaload, 1) := dgX9_pour_1.2.2.2.2.2.2.2.2.2.2.2.2.2.1
theorem dX9_pour_47 : decode cX9_pour 47 = .ok (.istore 4, 2) := dgX9_pour_1.2.2.2.2.2.2.2.2.2.2.2.2.2.2.1
theorem dX9_pour_49 : decode cX9_pour 49 = .ok (.iload 4, 2) := dgX9_pour_1.2.2.2.2.2.2.2.2.2.2.2.2.2.2.2
theorem dgX9_pour_2 : decode cX9_pour 51 = .ok (.ldc 85, 2) ∧ decode cX9_pour 53 = .ok (.if_icmp .ne 14, 3) ∧ decode cX9_pour 56 = .ok (.aload_n 0, 1) ∧ decode cX9_pour 57 = .ok (.getfield 9, 3) ∧ decode cX9_pour 60 = .ok (.iconst 5, 1) ∧ decode cX9_pour 61 = .ok (.iload_n 3, 1) ∧ decode cX9_pour 62 = .ok (.iadd, 1) ∧ decode cX9_pour 63 = .ok (.iaload, 1) ∧ decode cX9_pour 64 = .ok (.goto 11, 3) ∧ decode cX9_pour 67 = .ok (.iload 4, 2) ∧ decode cX9_pour 69 = .ok (.iconst 0, 1) ∧ decode cX9_pour 70 = .ok (.bipush 99, 2) ∧ decode cX9_pour 72 = .ok (.invokestatic 117, 3) ∧ decode cX9_pour 75 = .ok (.istore 5, 2) ∧ decode cX9_pour 77 = .ok (.iload_n 2, 1) ∧ decode cX9_pour 78 = .ok (.aload_n 0, 1) := by decide +kernel
theorem dX9_pour_51 : decode cX9_pour 51 = .ok (.ldc 85, 2) := dgX9_pour_2.1
theorem dX9_pour_53 : decode cX9_pour 53 = .ok (.if_icmp .ne 14, 3) := dgX9_pour_2.2.1
theorem dX9_pour_56 : decode cX9_pour 56 = .ok (.aload_n 0, 1) := dgX9_pour_2.2.2.1
theorem dX9_pour_57 : decode cX9_pour 57 = .ok (.getfield 9, 3) := dgX9_pour_2.2.2.2.1
theorem dX9_pour_60 : decode cX9_pour 60 = .ok (.iconst 5, 1) := dgX9_pour_2.2.2.2.2.1
theorem dX9_pour_61 : decode cX9_pour 61 = .ok (.iload_n 3, 1) := dgX9_pour_2.2.2.2.2.2.1
theorem dX9_pour_62 : decode cX9_pour 62 = .ok (.iadd, 1) := dgX9_pour_2.2.2.2.2.2.2.1
theorem dX9_pour_63 : decode cX9_pour 63 = .ok (.iaload, 1) := dgX9_pour_2.2.2.2.2.2.2.2.1
theorem dX9_pour_64 : decode cX9_pour 64 = .ok (.goto 11, 3) := dgX9_pour_2.2.2.2.2.2.2.2.2.1
theorem dX9_pour_67 : decode cX9_pour 67 = .ok (.iload 4, 2) := dgX9_pour_2.2.2.2.2.2.2.2.2.2.1
theorem dX9_pour_69 : decode cX9_pour 69 = .ok (.iconst 0, 1) := dgX9_pour_2.2.2.2.2.2.2.2.2.2.2.1
theorem dX9_pour_70 : decode cX9_pour 70 = .ok (.bipush 99, 2) := dgX9_pour_2.2.2.2.2.2.2.2.2.2.2.2.1
theorem dX9_pour_72 : decode cX9_pour 72 = .ok (.invokestatic 117, 3) := dgX9_pour_2.2.2.2.2.2.2.2.2.2.2.2.2.1
theorem dX9_pour_75 : decode cX9_pour 75 = .ok (.istore 5, 2) := dgX9_pour_2.2.2.2.2.2.2.2.2.2.2.2.2.2.1
theorem dX9_pour_77 : decode cX9_pour 77 = .ok (.iload_n 2, 1) := dgX9_pour_2.2.2.2.2.2.2.2.2.2.2.2.2.2.2.1
theorem dX9_pour_78 : decode cX9_pour 78 = .ok (.aload_n 0, 1) := dgX9_pour_2.2.2.2.2.2.2.2.2.2.2.2.2.2.2.2
theorem dgX9_pour_3 : decode cX9_pour 79 = .ok (.iconst 5, 1) ∧ decode cX9_pour 80 = .ok (.iload_n 3, 1) ∧ decode cX9_pour 81 = .ok (.iadd, 1) ∧ decode cX9_pour 82 = .ok (.iload 5, 2) ∧ decode cX9_pour 84 = .ok (.invokevirtual 140, 3) ∧ decode cX9_pour 87 = .ok (.iload 5, 2) ∧ decode cX9_pour 89 = .ok (.if_icmp .ne 7, 3) ∧ decode cX9_pour 92 = .ok (.iconst 0, 1) ∧ decode cX9_pour 93 = .ok (.goto 4, 3) ∧ decode cX9_pour 96 = .ok (.iconst 1, 1) ∧ decode cX9_pour 97 = .ok (.iadd, 1) ∧ decode cX9_pour 98 = .ok (.istore_n 2, 1) ∧ decode cX9_pour 99 = .ok (.iinc 3 1, 3) ∧ decode cX9_pour 102 = .ok (.goto (-76), 3) ∧ decode cX9_pour 105 = .ok (.iload_n 2, 1) ∧ decode cX9_pour 106 = .ok (.ireturn, 1) := by decide +kernel
theorem dX9_pour_79 : decode cX9_pour 79 = .ok (.iconst 5, 1) := dgX9_pour_3.1
theorem dX9_pour_80 : decode cX9_pour 80 = .ok (.iload_n 3, 1) := dgX9_pour_3.2.1
theorem dX9_pour_81 : decode cX9_pour 81 = .ok (.iadd, 1) := dgX9_pour_3.2.2.1
theorem dX9_pour_82 : decode cX9_pour 82 = .ok (.iload 5, 2) := dgX9_pour_3.2.2.2.1
theorem dX9_pour_84 : decode cX9_pour 84 = .ok (.invokevirtual 140, 3) := dgX9_pour_3.2.2.2.2.1
theorem dX9_pour_87 : decode cX9_pour 87 = .ok (.iload 5, 2) := dgX9_pour_3.2.2.2.2.2.1
theorem dX9_pour_89 : decode cX9_pour 89 = .ok (.if_icmp .ne 7, 3) := dgX9_pour_3.2.2.2.2.2.2.1
theorem dX9_pour_92 : decode cX9_pour 92 = .ok (.iconst 0, 1) := dgX9_pour_3.2.2.2.2.2.2.2.1
theorem dX9_pour_93 : decode cX9_pour 93 = .ok (.goto 4, 3) := dgX9_pour_3.2.2.2.2.2.2.2.2.1
theorem dX9_pour_96 : decode cX9_pour 96 = .ok (.iconst 1, 1) := dgX9_pour_3.2.2.2.2.2.2.2.2.2.1
theorem dX9_pour_97 : decode cX9_pour 97 = .ok (.iadd, 1) := dgX9_pour_3.2.2.2.2.2.2.2.2.2.2.1
theorem dX9_pour_98 : decode cX9_pour 98 = .ok (.istore_n 2, 1) := dgX9_pour_3.2.2.2.2.2.2.2.2.2.2.2.1
theorem dX9_pour_99 : decode cX9_pour 99 = .ok (.iinc 3 1, 3) := dgX9_pour_3.2.2.2.2.2.2.2.2.2.2.2.2.1
theorem dX9_pour_102 : decode cX9_pour 102 = .ok (.goto (-76), 3) := dgX9_pour_3.2.2.2.2.2.2.2.2.2.2.2.2.2.1
theorem dX9_pour_105 : decode cX9_pour 105 = .ok (.iload_n 2, 1) := dgX9_pour_3.2.2.2.2.2.2.2.2.2.2.2.2.2.2.1
theorem dX9_pour_106 : decode cX9_pour 106 = .ok (.ireturn, 1) := dgX9_pour_3.2.2.2.2.2.2.2.2.2.2.2.2.2.2.2
abbrev pX9_pour : List Nat := [0, 10, 22, 26, 67, 75, 96, 97, 105]
def bX9_pour_0 (cal : ab_F) : ab_K := o_iload 1 <| o_callS cal 206 1 <| o_if (fun x => decide (¬ x = 0)) 1 <| o_push (.int (-1000000001)) <| o_ret (some .int)
def bX9_pour_1 (cal : ab_F) : ab_K := o_aload 0 <| o_getf 8 26 <| o_iload 1 <| o_iald 0 <| o_if (fun x => decide (0 ≤ x)) 2 <| o_push (.int (-1000000011)) <| o_ret (some .int)
def bX9_pour_2 (cal : ab_F) : ab_K := o_push (.int 0) <| o_istore 2 <| o_push (.int 0) <| o_istore 3 <| o_goto 3
def bX9_pour_3 (cal : ab_F) : ab_K := o_iload 3 <| o_aload 0 <| o_getf 8 27 <| o_iload 1 <| o_iald 0 <| o_cmp (fun x y => decide (y ≤ x)) 8 <| o_aload 0 <| o_getf 8 28 <| o_push (.int 24) <| o_iload 1 <| o_bin (fun x y => x * y) <| o_iload 3 <| o_bin (fun x y => x + y) <| o_iald 0 <| o_istore 4 <| o_iload 4 <| o_push (.int (-1000000005)) <| o_cmp (fun x y => decide (¬ x = y)) 4 <| o_aload 0 <| o_getf 8 0 <| o_push (.int 5) <| o_iload 3 <| o_bin (fun x y => x + y) <| o_iald 0 <| o_goto 5
def bX9_pour_4 (cal : ab_F) : ab_K := o_iload 4 <| o_push (.int 0) <| o_push (.int 99) <| o_callS cal 129 3 <| o_goto 5
def bX9_pour_5 (cal : ab_F) : ab_K := o_istore 5 <| o_iload 2 <| o_aload 0 <| o_push (.int 5) <| o_iload 3 <| o_bin (fun x y => x + y) <| o_iload 5 <| o_callV cal 136 2 8 <| o_iload 5 <| o_cmp (fun x y => decide (¬ x = y)) 6 <| o_push (.int 0) <| o_goto 7
def bX9_pour_6 (cal : ab_F) : ab_K := o_push (.int 1) <| o_goto 7
def bX9_pour_7 (cal : ab_F) : ab_K := o_bin (fun x y => x + y) <| o_istore 2 <| o_iinc 3 1 <| o_goto 3
def bX9_pour_8 (cal : ab_F) : ab_K := o_iload 2 <| o_ret (some .int)
def bX9_pour (cal : ab_F) : List ab_K := [bX9_pour_0 cal, bX9_pour_1 cal, bX9_pour_2 cal, bX9_pour_3 cal, bX9_pour_4 cal, bX9_pour_5 cal, bX9_pour_6 cal, bX9_pour_7 cal, bX9_pour_8 cal]
set_option maxRecDepth 100000 in
theorem sX9_pour_0 {G : ab_G} {xs : List Int32} {d : Nat} {cal : ab_F} (hcs : ab_CS G (ab_Z G xs) ab_Mf cal d) : ab_Sd G (ab_Z G xs) (d + 1) (ab_mY mX9_pour pX9_pour) 0 (bX9_pour_0 cal) :=
  sn_iload_n dX9_pour_0 rfl <| sq_callS mt_206 hcs dX9_pour_1 w_1329 w_1330 w_63 w_1331 hy_206 hm_206 <| sn_if_ne (tg := 10) dX9_pour_4 rfl rfl <| sn_ldc dX9_pour_7 w_1109 <| sn_ret dX9_pour_9 ab_ri_int
set_option maxRecDepth 100000 in
theorem sX9_pour_1 {G : ab_G} {xs : List Int32} {d : Nat} {cal : ab_F} (hcs : ab_CS G (ab_Z G xs) ab_Mf cal d) : ab_Sd G (ab_Z G xs) (d + 1) (ab_mY mX9_pour pX9_pour) 10 (bX9_pour_1 cal) :=
  sn_aload_n dX9_pour_10 rfl <| sn_getf dX9_pour_11 rfl hinX9 (by decide) w_1017 <| sn_iload_n dX9_pour_14 rfl <| sn_iald dX9_pour_15 rfl <| sn_if_ge (tg := 22) dX9_pour_16 rfl rfl <| sn_ldc dX9_pour_19 w_1332 <| sn_ret dX9_pour_21 ab_ri_int
set_option maxRecDepth 100000 in
theorem sX9_pour_2 {G : ab_G} {xs : List Int32} {d : Nat} {cal : ab_F} (hcs : ab_CS G (ab_Z G xs) ab_Mf cal d) : ab_Sd G (ab_Z G xs) (d + 1) (ab_mY mX9_pour pX9_pour) 22 (bX9_pour_2 cal) :=
  sn_iconst dX9_pour_22 rfl <| sn_istore_n dX9_pour_23 rfl (by decide) <| sn_iconst dX9_pour_24 rfl <| sn_istore_n dX9_pour_25 rfl (by decide) <| sn_next rfl
set_option maxRecDepth 100000 in
theorem sX9_pour_3 {G : ab_G} {xs : List Int32} {d : Nat} {cal : ab_F} (hcs : ab_CS G (ab_Z G xs) ab_Mf cal d) : ab_Sd G (ab_Z G xs) (d + 1) (ab_mY mX9_pour pX9_pour) 26 (bX9_pour_3 cal) :=
  sn_iload_n dX9_pour_26 rfl <| sn_aload_n dX9_pour_27 rfl <| sn_getf dX9_pour_28 rfl hinX9 (by decide) w_1018 <| sn_iload_n dX9_pour_31 rfl <| sn_iald dX9_pour_32 rfl <| sn_cmp_ge (tg := 105) dX9_pour_33 rfl rfl <| sn_aload_n dX9_pour_36 rfl <| sn_getf dX9_pour_37 rfl hinX9 (by decide) w_1019 <| sn_bipush dX9_pour_40 rfl <| sn_iload_n dX9_pour_42 rfl <| sn_imul dX9_pour_43 <| sn_iload_n dX9_pour_44 rfl <| sn_iadd dX9_pour_45 <| sn_iald dX9_pour_46 rfl <| sn_istore dX9_pour_47 (by decide) <| sn_iload dX9_pour_49 <| sn_ldc dX9_pour_51 w_1260 <| sn_cmp_ne (tg := 67) dX9_pour_53 rfl rfl <| sn_aload_n dX9_pour_56 rfl <| sn_getf dX9_pour_57 rfl hinX9 (by decide) w_991 <| sn_iconst dX9_pour_60 rfl <| sn_iload_n dX9_pour_61 rfl <| sn_iadd dX9_pour_62 <| sn_iald dX9_pour_63 rfl <| sn_goto (tg := 75) dX9_pour_64 rfl rfl
set_option maxRecDepth 100000 in
theorem sX9_pour_4 {G : ab_G} {xs : List Int32} {d : Nat} {cal : ab_F} (hcs : ab_CS G (ab_Z G xs) ab_Mf cal d) : ab_Sd G (ab_Z G xs) (d + 1) (ab_mY mX9_pour pX9_pour) 67 (bX9_pour_4 cal) :=
  sn_iload dX9_pour_67 <| sn_iconst dX9_pour_69 rfl <| sn_bipush dX9_pour_70 rfl <| sq_callS mt_129 hcs dX9_pour_72 w_1165 w_1166 w_63 w_1167 hy_129 hm_129 <| sn_next rfl
set_option maxRecDepth 100000 in
theorem sX9_pour_5 {G : ab_G} {xs : List Int32} {d : Nat} {cal : ab_F} (hcs : ab_CS G (ab_Z G xs) ab_Mf cal d) : ab_Sd G (ab_Z G xs) (d + 1) (ab_mY mX9_pour pX9_pour) 75 (bX9_pour_5 cal) :=
  sn_istore dX9_pour_75 (by decide) <| sn_iload_n dX9_pour_77 rfl <| sn_aload_n dX9_pour_78 rfl <| sn_iconst dX9_pour_79 rfl <| sn_iload_n dX9_pour_80 rfl <| sn_iadd dX9_pour_81 <| sn_iload dX9_pour_82 <| sq_callV mt_136 hcs dX9_pour_84 rfl w_1183 w_1185 w_26 w_63 w_1186 hy_136 hm_136 <| sn_iload dX9_pour_87 <| sn_cmp_ne (tg := 96) dX9_pour_89 rfl rfl <| sn_iconst dX9_pour_92 rfl <| sn_goto (tg := 97) dX9_pour_93 rfl rfl
set_option maxRecDepth 100000 in
theorem sX9_pour_6 {G : ab_G} {xs : List Int32} {d : Nat} {cal : ab_F} (hcs : ab_CS G (ab_Z G xs) ab_Mf cal d) : ab_Sd G (ab_Z G xs) (d + 1) (ab_mY mX9_pour pX9_pour) 96 (bX9_pour_6 cal) :=
  sn_iconst dX9_pour_96 rfl <| sn_next rfl
set_option maxRecDepth 100000 in
theorem sX9_pour_7 {G : ab_G} {xs : List Int32} {d : Nat} {cal : ab_F} (hcs : ab_CS G (ab_Z G xs) ab_Mf cal d) : ab_Sd G (ab_Z G xs) (d + 1) (ab_mY mX9_pour pX9_pour) 97 (bX9_pour_7 cal) :=
  sn_iadd dX9_pour_97 <| sn_istore_n dX9_pour_98 rfl (by decide) <| sn_iinc dX9_pour_99 rfl (by decide) <| sn_goto (tg := 26) dX9_pour_102 rfl rfl
set_option maxRecDepth 100000 in
theorem sX9_pour_8 {G : ab_G} {xs : List Int32} {d : Nat} {cal : ab_F} (hcs : ab_CS G (ab_Z G xs) ab_Mf cal d) : ab_Sd G (ab_Z G xs) (d + 1) (ab_mY mX9_pour pX9_pour) 105 (bX9_pour_8 cal) :=
  sn_iload_n dX9_pour_105 rfl <| sn_ret dX9_pour_106 ab_ri_int
theorem sX9_pour {G : ab_G} {xs : List Int32} {d : Nat} {cal : ab_F} (hcs : ab_CS G (ab_Z G xs) ab_Mf cal d) : ab_BS G (ab_Z G xs) (d + 1) (ab_mY mX9_pour pX9_pour) pX9_pour (bX9_pour cal) := ⟨sX9_pour_0 hcs, sX9_pour_1 hcs, sX9_pour_2 hcs, sX9_pour_3 hcs, sX9_pour_4 hcs, sX9_pour_5 hcs, sX9_pour_6 hcs, sX9_pour_7 hcs, sX9_pour_8 hcs, trivial⟩
theorem dgX9_reads_0 : decode cX9_reads 0 = .ok (.iload_n 1, 1) ∧ decode cX9_reads 1 = .ok (.invokestatic 206, 3) ∧ decode cX9_reads 4 = .ok (.ifCond .ne 6, 3) ∧ decode cX9_reads 7 = .ok (.ldc 90, 2) ∧ decode cX9_reads 9 = .ok (.ireturn, 1) ∧ decode cX9_reads 10 = .ok (.aload_n 0, 1) ∧ decode cX9_reads 11 = .ok (.getfield 58, 3) ∧ decode cX9_reads 14 = .ok (.iload_n 1, 1) ∧ decode cX9_reads 15 = .ok (.iaload, 1) ∧ decode cX9_reads 16 = .ok (.ifCond .ge 6, 3) ∧ decode cX9_reads 19 = .ok (.ldc 209, 2) ∧ decode cX9_reads 21 = .ok (.ireturn, 1) ∧ decode cX9_reads 22 = .ok (.iconst 0, 1) ∧ decode cX9_reads 23 = .ok (.istore_n 2, 1) ∧ decode cX9_reads 24 = .ok (.iload_n 2, 1) ∧ decode cX9_reads 25 = .ok (.aload_n 0, 1) := by decide +kernel
theorem dX9_reads_0 : decode cX9_reads 0 = .ok (.iload_n 1, 1) := dgX9_reads_0.1
theorem dX9_reads_1 : decode cX9_reads 1 = .ok (.invokestatic 206, 3) := dgX9_reads_0.2.1
theorem dX9_reads_4 : decode cX9_reads 4 = .ok (.ifCond .ne 6, 3) := dgX9_reads_0.2.2.1
theorem dX9_reads_7 : decode cX9_reads 7 = .ok (.ldc 90, 2) := dgX9_reads_0.2.2.2.1
theorem dX9_reads_9 : decode cX9_reads 9 = .ok (.ireturn, 1) := dgX9_reads_0.2.2.2.2.1
theorem dX9_reads_10 : decode cX9_reads 10 = .ok (.aload_n 0, 1) := dgX9_reads_0.2.2.2.2.2.1
theorem dX9_reads_11 : decode cX9_reads 11 = .ok (.getfield 58, 3) := dgX9_reads_0.2.2.2.2.2.2.1
theorem dX9_reads_14 : decode cX9_reads 14 = .ok (.iload_n 1, 1) := dgX9_reads_0.2.2.2.2.2.2.2.1
theorem dX9_reads_15 : decode cX9_reads 15 = .ok (.iaload, 1) := dgX9_reads_0.2.2.2.2.2.2.2.2.1
theorem dX9_reads_16 : decode cX9_reads 16 = .ok (.ifCond .ge 6, 3) := dgX9_reads_0.2.2.2.2.2.2.2.2.2.1
theorem dX9_reads_19 : decode cX9_reads 19 = .ok (.ldc 209, 2) := dgX9_reads_0.2.2.2.2.2.2.2.2.2.2.1
theorem dX9_reads_21 : decode cX9_reads 21 = .ok (.ireturn, 1) := dgX9_reads_0.2.2.2.2.2.2.2.2.2.2.2.1
theorem dX9_reads_22 : decode cX9_reads 22 = .ok (.iconst 0, 1) := dgX9_reads_0.2.2.2.2.2.2.2.2.2.2.2.2.1
theorem dX9_reads_23 : decode cX9_reads 23 = .ok (.istore_n 2, 1) := dgX9_reads_0.2.2.2.2.2.2.2.2.2.2.2.2.2.1
theorem dX9_reads_24 : decode cX9_reads 24 = .ok (.iload_n 2, 1) := dgX9_reads_0.2.2.2.2.2.2.2.2.2.2.2.2.2.2.1
theorem dX9_reads_25 : decode cX9_reads 25 = .ok (.aload_n 0, 1) := dgX9_reads_0.2.2.2.2.2.2.2.2.2.2.2.2.2.2.2
theorem dgX9_reads_1 : decode cX9_reads 26 = .ok (.getfield 61, 3) ∧ decode cX9_reads 29 = .ok (.iload_n 1, 1) ∧ decode cX9_reads 30 = .ok (.iaload, 1) ∧ decode cX9_reads 31 = .ok (.if_icmp .ge 44, 3) ∧ decode cX9_reads 34 = .ok (.aload_n 0, 1) ∧ decode cX9_reads 35 = .ok (.getfield 64, 3) ∧ decode cX9_reads 38 = .ok (.bipush 24, 2) ∧ decode cX9_reads 40 = .ok (.iload_n 1, 1) ∧ decode cX9_reads 41 = .ok (.imul, 1) ∧ decode cX9_reads 42 = .ok (.iload_n 2, 1) ∧ decode cX9_reads 43 = .ok (.iadd, 1) ∧ decode cX9_reads 44 = .ok (.iaload, 1) ∧ decode cX9_reads 45 = .ok (.istore_n 3, 1) ∧ decode cX9_reads 46 = .ok (.iload_n 3, 1) ∧ decode cX9_reads 47 = .ok (.ldc 85, 2) ∧ decode cX9_reads 49 = .ok (.if_icmp .eq 20, 3) := by decide +kernel
theorem dX9_reads_26 : decode cX9_reads 26 = .ok (.getfield 61, 3) := dgX9_reads_1.1
theorem dX9_reads_29 : decode cX9_reads 29 = .ok (.iload_n 1, 1) := dgX9_reads_1.2.1
theorem dX9_reads_30 : decode cX9_reads 30 = .ok (.iaload, 1) := dgX9_reads_1.2.2.1
theorem dX9_reads_31 : decode cX9_reads 31 = .ok (.if_icmp .ge 44, 3) := dgX9_reads_1.2.2.2.1
theorem dX9_reads_34 : decode cX9_reads 34 = .ok (.aload_n 0, 1) := dgX9_reads_1.2.2.2.2.1
theorem dX9_reads_35 : decode cX9_reads 35 = .ok (.getfield 64, 3) := dgX9_reads_1.2.2.2.2.2.1
theorem dX9_reads_38 : decode cX9_reads 38 = .ok (.bipush 24, 2) := dgX9_reads_1.2.2.2.2.2.2.1
theorem dX9_reads_40 : decode cX9_reads 40 = .ok (.iload_n 1, 1) := dgX9_reads_1.2.2.2.2.2.2.2.1
theorem dX9_reads_41 : decode cX9_reads 41 = .ok (.imul, 1) := dgX9_reads_1.2.2.2.2.2.2.2.2.1
theorem dX9_reads_42 : decode cX9_reads 42 = .ok (.iload_n 2, 1) := dgX9_reads_1.2.2.2.2.2.2.2.2.2.1
theorem dX9_reads_43 : decode cX9_reads 43 = .ok (.iadd, 1) := dgX9_reads_1.2.2.2.2.2.2.2.2.2.2.1
theorem dX9_reads_44 : decode cX9_reads 44 = .ok (.iaload, 1) := dgX9_reads_1.2.2.2.2.2.2.2.2.2.2.2.1
theorem dX9_reads_45 : decode cX9_reads 45 = .ok (.istore_n 3, 1) := dgX9_reads_1.2.2.2.2.2.2.2.2.2.2.2.2.1
theorem dX9_reads_46 : decode cX9_reads 46 = .ok (.iload_n 3, 1) := dgX9_reads_1.2.2.2.2.2.2.2.2.2.2.2.2.2.1
theorem dX9_reads_47 : decode cX9_reads 47 = .ok (.ldc 85, 2) := dgX9_reads_1.2.2.2.2.2.2.2.2.2.2.2.2.2.2.1
theorem dX9_reads_49 : decode cX9_reads 49 = .ok (.if_icmp .eq 20, 3) := dgX9_reads_1.2.2.2.2.2.2.2.2.2.2.2.2.2.2.2
theorem dgX9_reads_2 : decode cX9_reads 52 = .ok (.iload_n 2, 1) ∧ decode cX9_reads 53 = .ok (.bipush 11, 2) ∧ decode cX9_reads 55 = .ok (.if_icmp .gt 12, 3) ∧ decode cX9_reads 58 = .ok (.iload_n 3, 1) ∧ decode cX9_reads 59 = .ok (.aload_n 0, 1) ∧ decode cX9_reads 60 = .ok (.iload_n 2, 1) ∧ decode cX9_reads 61 = .ok (.invokevirtual 143, 3) ∧ decode cX9_reads 64 = .ok (.if_icmp .eq 5, 3) ∧ decode cX9_reads 67 = .ok (.iload_n 2, 1) ∧ decode cX9_reads 68 = .ok (.ireturn, 1) ∧ decode cX9_reads 69 = .ok (.iinc 2 1, 3) ∧ decode cX9_reads 72 = .ok (.goto (-48), 3) ∧ decode cX9_reads 75 = .ok (.ldc 85, 2) ∧ decode cX9_reads 77 = .ok (.ireturn, 1) := by decide +kernel
theorem dX9_reads_52 : decode cX9_reads 52 = .ok (.iload_n 2, 1) := dgX9_reads_2.1
theorem dX9_reads_53 : decode cX9_reads 53 = .ok (.bipush 11, 2) := dgX9_reads_2.2.1
theorem dX9_reads_55 : decode cX9_reads 55 = .ok (.if_icmp .gt 12, 3) := dgX9_reads_2.2.2.1
theorem dX9_reads_58 : decode cX9_reads 58 = .ok (.iload_n 3, 1) := dgX9_reads_2.2.2.2.1
theorem dX9_reads_59 : decode cX9_reads 59 = .ok (.aload_n 0, 1) := dgX9_reads_2.2.2.2.2.1
theorem dX9_reads_60 : decode cX9_reads 60 = .ok (.iload_n 2, 1) := dgX9_reads_2.2.2.2.2.2.1
theorem dX9_reads_61 : decode cX9_reads 61 = .ok (.invokevirtual 143, 3) := dgX9_reads_2.2.2.2.2.2.2.1
theorem dX9_reads_64 : decode cX9_reads 64 = .ok (.if_icmp .eq 5, 3) := dgX9_reads_2.2.2.2.2.2.2.2.1
theorem dX9_reads_67 : decode cX9_reads 67 = .ok (.iload_n 2, 1) := dgX9_reads_2.2.2.2.2.2.2.2.2.1
theorem dX9_reads_68 : decode cX9_reads 68 = .ok (.ireturn, 1) := dgX9_reads_2.2.2.2.2.2.2.2.2.2.1
theorem dX9_reads_69 : decode cX9_reads 69 = .ok (.iinc 2 1, 3) := dgX9_reads_2.2.2.2.2.2.2.2.2.2.2.1
theorem dX9_reads_72 : decode cX9_reads 72 = .ok (.goto (-48), 3) := dgX9_reads_2.2.2.2.2.2.2.2.2.2.2.2.1
theorem dX9_reads_75 : decode cX9_reads 75 = .ok (.ldc 85, 2) := dgX9_reads_2.2.2.2.2.2.2.2.2.2.2.2.2.1
theorem dX9_reads_77 : decode cX9_reads 77 = .ok (.ireturn, 1) := dgX9_reads_2.2.2.2.2.2.2.2.2.2.2.2.2.2
abbrev pX9_reads : List Nat := [0, 10, 22, 24, 67, 69, 75]
def bX9_reads_0 (cal : ab_F) : ab_K := o_iload 1 <| o_callS cal 206 1 <| o_if (fun x => decide (¬ x = 0)) 1 <| o_push (.int (-1000000001)) <| o_ret (some .int)
def bX9_reads_1 (cal : ab_F) : ab_K := o_aload 0 <| o_getf 8 26 <| o_iload 1 <| o_iald 0 <| o_if (fun x => decide (0 ≤ x)) 2 <| o_push (.int (-1000000011)) <| o_ret (some .int)
def bX9_reads_2 (cal : ab_F) : ab_K := o_push (.int 0) <| o_istore 2 <| o_goto 3
def bX9_reads_3 (cal : ab_F) : ab_K := o_iload 2 <| o_aload 0 <| o_getf 8 27 <| o_iload 1 <| o_iald 0 <| o_cmp (fun x y => decide (y ≤ x)) 6 <| o_aload 0 <| o_getf 8 28 <| o_push (.int 24) <| o_iload 1 <| o_bin (fun x y => x * y) <| o_iload 2 <| o_bin (fun x y => x + y) <| o_iald 0 <| o_istore 3 <| o_iload 3 <| o_push (.int (-1000000005)) <| o_cmp (fun x y => decide (x = y)) 5 <| o_iload 2 <| o_push (.int 11) <| o_cmp (fun x y => decide (y < x)) 4 <| o_iload 3 <| o_aload 0 <| o_iload 2 <| o_callV cal 149 1 8 <| o_cmp (fun x y => decide (x = y)) 5 <| o_goto 4
def bX9_reads_4 (cal : ab_F) : ab_K := o_iload 2 <| o_ret (some .int)
def bX9_reads_5 (cal : ab_F) : ab_K := o_iinc 2 1 <| o_goto 3
def bX9_reads_6 (cal : ab_F) : ab_K := o_push (.int (-1000000005)) <| o_ret (some .int)
def bX9_reads (cal : ab_F) : List ab_K := [bX9_reads_0 cal, bX9_reads_1 cal, bX9_reads_2 cal, bX9_reads_3 cal, bX9_reads_4 cal, bX9_reads_5 cal, bX9_reads_6 cal]
set_option maxRecDepth 100000 in
theorem sX9_reads_0 {G : ab_G} {xs : List Int32} {d : Nat} {cal : ab_F} (hcs : ab_CS G (ab_Z G xs) ab_Mf cal d) : ab_Sd G (ab_Z G xs) (d + 1) (ab_mY mX9_reads pX9_reads) 0 (bX9_reads_0 cal) :=
  sn_iload_n dX9_reads_0 rfl <| sq_callS mt_206 hcs dX9_reads_1 w_1329 w_1330 w_63 w_1331 hy_206 hm_206 <| sn_if_ne (tg := 10) dX9_reads_4 rfl rfl <| sn_ldc dX9_reads_7 w_1109 <| sn_ret dX9_reads_9 ab_ri_int
set_option maxRecDepth 100000 in
theorem sX9_reads_1 {G : ab_G} {xs : List Int32} {d : Nat} {cal : ab_F} (hcs : ab_CS G (ab_Z G xs) ab_Mf cal d) : ab_Sd G (ab_Z G xs) (d + 1) (ab_mY mX9_reads pX9_reads) 10 (bX9_reads_1 cal) :=
  sn_aload_n dX9_reads_10 rfl <| sn_getf dX9_reads_11 rfl hinX9 (by decide) w_1017 <| sn_iload_n dX9_reads_14 rfl <| sn_iald dX9_reads_15 rfl <| sn_if_ge (tg := 22) dX9_reads_16 rfl rfl <| sn_ldc dX9_reads_19 w_1332 <| sn_ret dX9_reads_21 ab_ri_int
set_option maxRecDepth 100000 in
theorem sX9_reads_2 {G : ab_G} {xs : List Int32} {d : Nat} {cal : ab_F} (hcs : ab_CS G (ab_Z G xs) ab_Mf cal d) : ab_Sd G (ab_Z G xs) (d + 1) (ab_mY mX9_reads pX9_reads) 22 (bX9_reads_2 cal) :=
  sn_iconst dX9_reads_22 rfl <| sn_istore_n dX9_reads_23 rfl (by decide) <| sn_next rfl
set_option maxRecDepth 100000 in
theorem sX9_reads_3 {G : ab_G} {xs : List Int32} {d : Nat} {cal : ab_F} (hcs : ab_CS G (ab_Z G xs) ab_Mf cal d) : ab_Sd G (ab_Z G xs) (d + 1) (ab_mY mX9_reads pX9_reads) 24 (bX9_reads_3 cal) :=
  sn_iload_n dX9_reads_24 rfl <| sn_aload_n dX9_reads_25 rfl <| sn_getf dX9_reads_26 rfl hinX9 (by decide) w_1018 <| sn_iload_n dX9_reads_29 rfl <| sn_iald dX9_reads_30 rfl <| sn_cmp_ge (tg := 75) dX9_reads_31 rfl rfl <| sn_aload_n dX9_reads_34 rfl <| sn_getf dX9_reads_35 rfl hinX9 (by decide) w_1019 <| sn_bipush dX9_reads_38 rfl <| sn_iload_n dX9_reads_40 rfl <| sn_imul dX9_reads_41 <| sn_iload_n dX9_reads_42 rfl <| sn_iadd dX9_reads_43 <| sn_iald dX9_reads_44 rfl <| sn_istore_n dX9_reads_45 rfl (by decide) <| sn_iload_n dX9_reads_46 rfl <| sn_ldc dX9_reads_47 w_1260 <| sn_cmp_eq (tg := 69) dX9_reads_49 rfl rfl <| sn_iload_n dX9_reads_52 rfl <| sn_bipush dX9_reads_53 rfl <| sn_cmp_gt (tg := 67) dX9_reads_55 rfl rfl <| sn_iload_n dX9_reads_58 rfl <| sn_aload_n dX9_reads_59 rfl <| sn_iload_n dX9_reads_60 rfl <| sq_callV mt_149 hcs dX9_reads_61 rfl w_1191 w_1193 w_27 w_63 w_1194 hy_149 hm_149 <| sn_cmp_eq (tg := 69) dX9_reads_64 rfl rfl <| sn_next rfl
set_option maxRecDepth 100000 in
theorem sX9_reads_4 {G : ab_G} {xs : List Int32} {d : Nat} {cal : ab_F} (hcs : ab_CS G (ab_Z G xs) ab_Mf cal d) : ab_Sd G (ab_Z G xs) (d + 1) (ab_mY mX9_reads pX9_reads) 67 (bX9_reads_4 cal) :=
  sn_iload_n dX9_reads_67 rfl <| sn_ret dX9_reads_68 ab_ri_int
set_option maxRecDepth 100000 in
theorem sX9_reads_5 {G : ab_G} {xs : List Int32} {d : Nat} {cal : ab_F} (hcs : ab_CS G (ab_Z G xs) ab_Mf cal d) : ab_Sd G (ab_Z G xs) (d + 1) (ab_mY mX9_reads pX9_reads) 69 (bX9_reads_5 cal) :=
  sn_iinc dX9_reads_69 rfl (by decide) <| sn_goto (tg := 24) dX9_reads_72 rfl rfl
set_option maxRecDepth 100000 in
theorem sX9_reads_6 {G : ab_G} {xs : List Int32} {d : Nat} {cal : ab_F} (hcs : ab_CS G (ab_Z G xs) ab_Mf cal d) : ab_Sd G (ab_Z G xs) (d + 1) (ab_mY mX9_reads pX9_reads) 75 (bX9_reads_6 cal) :=
  sn_ldc dX9_reads_75 w_1260 <| sn_ret dX9_reads_77 ab_ri_int
theorem sX9_reads {G : ab_G} {xs : List Int32} {d : Nat} {cal : ab_F} (hcs : ab_CS G (ab_Z G xs) ab_Mf cal d) : ab_BS G (ab_Z G xs) (d + 1) (ab_mY mX9_reads pX9_reads) pX9_reads (bX9_reads cal) := ⟨sX9_reads_0 hcs, sX9_reads_1 hcs, sX9_reads_2 hcs, sX9_reads_3 hcs, sX9_reads_4 hcs, sX9_reads_5 hcs, sX9_reads_6 hcs, trivial⟩
theorem dgX9_copy_0 : decode cX9_copy 0 = .ok (.iload_n 1, 1) ∧ decode cX9_copy 1 = .ok (.invokestatic 206, 3) ∧ decode cX9_copy 4 = .ok (.ifCond .eq 10, 3) ∧ decode cX9_copy 7 = .ok (.iload_n 3, 1) ∧ decode cX9_copy 8 = .ok (.invokestatic 206, 3) ∧ decode cX9_copy 11 = .ok (.ifCond .ne 6, 3) ∧ decode cX9_copy 14 = .ok (.ldc 90, 2) ∧ decode cX9_copy 16 = .ok (.ireturn, 1) ∧ decode cX9_copy 17 = .ok (.aload_n 0, 1) ∧ decode cX9_copy 18 = .ok (.getfield 58, 3) ∧ decode cX9_copy 21 = .ok (.iload_n 1, 1) ∧ decode cX9_copy 22 = .ok (.iaload, 1) ∧ decode cX9_copy 23 = .ok (.ifCond .lt 12, 3) ∧ decode cX9_copy 26 = .ok (.aload_n 0, 1) ∧ decode cX9_copy 27 = .ok (.getfield 58, 3) ∧ decode cX9_copy 30 = .ok (.iload_n 3, 1) := by decide +kernel
theorem dX9_copy_0 : decode cX9_copy 0 = .ok (.iload_n 1, 1) := dgX9_copy_0.1
theorem dX9_copy_1 : decode cX9_copy 1 = .ok (.invokestatic 206, 3) := dgX9_copy_0.2.1
theorem dX9_copy_4 : decode cX9_copy 4 = .ok (.ifCond .eq 10, 3) := dgX9_copy_0.2.2.1
theorem dX9_copy_7 : decode cX9_copy 7 = .ok (.iload_n 3, 1) := dgX9_copy_0.2.2.2.1
theorem dX9_copy_8 : decode cX9_copy 8 = .ok (.invokestatic 206, 3) := dgX9_copy_0.2.2.2.2.1
theorem dX9_copy_11 : decode cX9_copy 11 = .ok (.ifCond .ne 6, 3) := dgX9_copy_0.2.2.2.2.2.1
theorem dX9_copy_14 : decode cX9_copy 14 = .ok (.ldc 90, 2) := dgX9_copy_0.2.2.2.2.2.2.1
theorem dX9_copy_16 : decode cX9_copy 16 = .ok (.ireturn, 1) := dgX9_copy_0.2.2.2.2.2.2.2.1
theorem dX9_copy_17 : decode cX9_copy 17 = .ok (.aload_n 0, 1) := dgX9_copy_0.2.2.2.2.2.2.2.2.1
theorem dX9_copy_18 : decode cX9_copy 18 = .ok (.getfield 58, 3) := dgX9_copy_0.2.2.2.2.2.2.2.2.2.1
theorem dX9_copy_21 : decode cX9_copy 21 = .ok (.iload_n 1, 1) := dgX9_copy_0.2.2.2.2.2.2.2.2.2.2.1
theorem dX9_copy_22 : decode cX9_copy 22 = .ok (.iaload, 1) := dgX9_copy_0.2.2.2.2.2.2.2.2.2.2.2.1
theorem dX9_copy_23 : decode cX9_copy 23 = .ok (.ifCond .lt 12, 3) := dgX9_copy_0.2.2.2.2.2.2.2.2.2.2.2.2.1
theorem dX9_copy_26 : decode cX9_copy 26 = .ok (.aload_n 0, 1) := dgX9_copy_0.2.2.2.2.2.2.2.2.2.2.2.2.2.1
theorem dX9_copy_27 : decode cX9_copy 27 = .ok (.getfield 58, 3) := dgX9_copy_0.2.2.2.2.2.2.2.2.2.2.2.2.2.2.1
theorem dX9_copy_30 : decode cX9_copy 30 = .ok (.iload_n 3, 1) := dgX9_copy_0.2.2.2.2.2.2.2.2.2.2.2.2.2.2.2
theorem dgX9_copy_1 : decode cX9_copy 31 = .ok (.iaload, 1) ∧ decode cX9_copy 32 = .ok (.ifCond .ge 6, 3) ∧ decode cX9_copy 35 = .ok (.ldc 209, 2) ∧ decode cX9_copy 37 = .ok (.ireturn, 1) ∧ decode cX9_copy 38 = .ok (.aload_n 0, 1) ∧ decode cX9_copy 39 = .ok (.getfield 58, 3) ∧ decode cX9_copy 42 = .ok (.iload_n 1, 1) ∧ decode cX9_copy 43 = .ok (.iaload, 1) ∧ decode cX9_copy 44 = .ok (.aload_n 0, 1) ∧ decode cX9_copy 45 = .ok (.getfield 58, 3) ∧ decode cX9_copy 48 = .ok (.iload_n 3, 1) ∧ decode cX9_copy 49 = .ok (.iaload, 1) ∧ decode cX9_copy 50 = .ok (.if_icmp .eq 6, 3) ∧ decode cX9_copy 53 = .ok (.ldc 139, 2) ∧ decode cX9_copy 55 = .ok (.ireturn, 1) ∧ decode cX9_copy 56 = .ok (.iload_n 2, 1) := by decide +kernel
theorem dX9_copy_31 : decode cX9_copy 31 = .ok (.iaload, 1) := dgX9_copy_1.1
theorem dX9_copy_32 : decode cX9_copy 32 = .ok (.ifCond .ge 6, 3) := dgX9_copy_1.2.1
theorem dX9_copy_35 : decode cX9_copy 35 = .ok (.ldc 209, 2) := dgX9_copy_1.2.2.1
theorem dX9_copy_37 : decode cX9_copy 37 = .ok (.ireturn, 1) := dgX9_copy_1.2.2.2.1
theorem dX9_copy_38 : decode cX9_copy 38 = .ok (.aload_n 0, 1) := dgX9_copy_1.2.2.2.2.1
theorem dX9_copy_39 : decode cX9_copy 39 = .ok (.getfield 58, 3) := dgX9_copy_1.2.2.2.2.2.1
theorem dX9_copy_42 : decode cX9_copy 42 = .ok (.iload_n 1, 1) := dgX9_copy_1.2.2.2.2.2.2.1
theorem dX9_copy_43 : decode cX9_copy 43 = .ok (.iaload, 1) := dgX9_copy_1.2.2.2.2.2.2.2.1
theorem dX9_copy_44 : decode cX9_copy 44 = .ok (.aload_n 0, 1) := dgX9_copy_1.2.2.2.2.2.2.2.2.1
theorem dX9_copy_45 : decode cX9_copy 45 = .ok (.getfield 58, 3) := dgX9_copy_1.2.2.2.2.2.2.2.2.2.1
theorem dX9_copy_48 : decode cX9_copy 48 = .ok (.iload_n 3, 1) := dgX9_copy_1.2.2.2.2.2.2.2.2.2.2.1
theorem dX9_copy_49 : decode cX9_copy 49 = .ok (.iaload, 1) := dgX9_copy_1.2.2.2.2.2.2.2.2.2.2.2.1
theorem dX9_copy_50 : decode cX9_copy 50 = .ok (.if_icmp .eq 6, 3) := dgX9_copy_1.2.2.2.2.2.2.2.2.2.2.2.2.1
theorem dX9_copy_53 : decode cX9_copy 53 = .ok (.ldc 139, 2) := dgX9_copy_1.2.2.2.2.2.2.2.2.2.2.2.2.2.1
theorem dX9_copy_55 : decode cX9_copy 55 = .ok (.ireturn, 1) := dgX9_copy_1.2.2.2.2.2.2.2.2.2.2.2.2.2.2.1
theorem dX9_copy_56 : decode cX9_copy 56 = .ok (.iload_n 2, 1) := dgX9_copy_1.2.2.2.2.2.2.2.2.2.2.2.2.2.2.2
theorem dgX9_copy_2 : decode cX9_copy 57 = .ok (.ifCond .lt 40, 3) ∧ decode cX9_copy 60 = .ok (.iload 4, 2) ∧ decode cX9_copy 62 = .ok (.ifCond .lt 35, 3) ∧ decode cX9_copy 65 = .ok (.iload 5, 2) ∧ decode cX9_copy 67 = .ok (.ifCond .lt 30, 3) ∧ decode cX9_copy 70 = .ok (.iload_n 2, 1) ∧ decode cX9_copy 71 = .ok (.aload_n 0, 1) ∧ decode cX9_copy 72 = .ok (.getfield 61, 3) ∧ decode cX9_copy 75 = .ok (.iload_n 1, 1) ∧ decode cX9_copy 76 = .ok (.iaload, 1) ∧ decode cX9_copy 77 = .ok (.iload 5, 2) ∧ decode cX9_copy 79 = .ok (.isub, 1) ∧ decode cX9_copy 80 = .ok (.if_icmp .gt 17, 3) ∧ decode cX9_copy 83 = .ok (.iload 4, 2) ∧ decode cX9_copy 85 = .ok (.aload_n 0, 1) ∧ decode cX9_copy 86 = .ok (.getfield 61, 3) := by decide +kernel
theorem dX9_copy_57 : decode cX9_copy 57 = .ok (.ifCond .lt 40, 3) := dgX9_copy_2.1
theorem dX9_copy_60 : decode cX9_copy 60 = .ok (.iload 4, 2) := dgX9_copy_2.2.1
theorem dX9_copy_62 : decode cX9_copy 62 = .ok (.ifCond .lt 35, 3) := dgX9_copy_2.2.2.1
theorem dX9_copy_65 : decode cX9_copy 65 = .ok (.iload 5, 2) := dgX9_copy_2.2.2.2.1
theorem dX9_copy_67 : decode cX9_copy 67 = .ok (.ifCond .lt 30, 3) := dgX9_copy_2.2.2.2.2.1
theorem dX9_copy_70 : decode cX9_copy 70 = .ok (.iload_n 2, 1) := dgX9_copy_2.2.2.2.2.2.1
theorem dX9_copy_71 : decode cX9_copy 71 = .ok (.aload_n 0, 1) := dgX9_copy_2.2.2.2.2.2.2.1
theorem dX9_copy_72 : decode cX9_copy 72 = .ok (.getfield 61, 3) := dgX9_copy_2.2.2.2.2.2.2.2.1
theorem dX9_copy_75 : decode cX9_copy 75 = .ok (.iload_n 1, 1) := dgX9_copy_2.2.2.2.2.2.2.2.2.1
theorem dX9_copy_76 : decode cX9_copy 76 = .ok (.iaload, 1) := dgX9_copy_2.2.2.2.2.2.2.2.2.2.1
theorem dX9_copy_77 : decode cX9_copy 77 = .ok (.iload 5, 2) := dgX9_copy_2.2.2.2.2.2.2.2.2.2.2.1
theorem dX9_copy_79 : decode cX9_copy 79 = .ok (.isub, 1) := dgX9_copy_2.2.2.2.2.2.2.2.2.2.2.2.1
theorem dX9_copy_80 : decode cX9_copy 80 = .ok (.if_icmp .gt 17, 3) := dgX9_copy_2.2.2.2.2.2.2.2.2.2.2.2.2.1
theorem dX9_copy_83 : decode cX9_copy 83 = .ok (.iload 4, 2) := dgX9_copy_2.2.2.2.2.2.2.2.2.2.2.2.2.2.1
theorem dX9_copy_85 : decode cX9_copy 85 = .ok (.aload_n 0, 1) := dgX9_copy_2.2.2.2.2.2.2.2.2.2.2.2.2.2.2.1
theorem dX9_copy_86 : decode cX9_copy 86 = .ok (.getfield 61, 3) := dgX9_copy_2.2.2.2.2.2.2.2.2.2.2.2.2.2.2.2
theorem dgX9_copy_3 : decode cX9_copy 89 = .ok (.iload_n 3, 1) ∧ decode cX9_copy 90 = .ok (.iaload, 1) ∧ decode cX9_copy 91 = .ok (.iload 5, 2) ∧ decode cX9_copy 93 = .ok (.isub, 1) ∧ decode cX9_copy 94 = .ok (.if_icmp .le 7, 3) ∧ decode cX9_copy 97 = .ok (.ldc_w 281, 3) ∧ decode cX9_copy 100 = .ok (.ireturn, 1) ∧ decode cX9_copy 101 = .ok (.iconst 0, 1) ∧ decode cX9_copy 102 = .ok (.istore 6, 2) ∧ decode cX9_copy 104 = .ok (.iload 6, 2) ∧ decode cX9_copy 106 = .ok (.iload 5, 2) ∧ decode cX9_copy 108 = .ok (.if_icmp .ge 30, 3) ∧ decode cX9_copy 111 = .ok (.aload_n 0, 1) ∧ decode cX9_copy 112 = .ok (.getfield 79, 3) ∧ decode cX9_copy 115 = .ok (.iload 6, 2) ∧ decode cX9_copy 117 = .ok (.aload_n 0, 1) := by decide +kernel
theorem dX9_copy_89 : decode cX9_copy 89 = .ok (.iload_n 3, 1) := dgX9_copy_3.1
theorem dX9_copy_90 : decode cX9_copy 90 = .ok (.iaload, 1) := dgX9_copy_3.2.1
theorem dX9_copy_91 : decode cX9_copy 91 = .ok (.iload 5, 2) := dgX9_copy_3.2.2.1
theorem dX9_copy_93 : decode cX9_copy 93 = .ok (.isub, 1) := dgX9_copy_3.2.2.2.1
theorem dX9_copy_94 : decode cX9_copy 94 = .ok (.if_icmp .le 7, 3) := dgX9_copy_3.2.2.2.2.1
theorem dX9_copy_97 : decode cX9_copy 97 = .ok (.ldc_w 281, 3) := dgX9_copy_3.2.2.2.2.2.1
theorem dX9_copy_100 : decode cX9_copy 100 = .ok (.ireturn, 1) := dgX9_copy_3.2.2.2.2.2.2.1
theorem dX9_copy_101 : decode cX9_copy 101 = .ok (.iconst 0, 1) := dgX9_copy_3.2.2.2.2.2.2.2.1
theorem dX9_copy_102 : decode cX9_copy 102 = .ok (.istore 6, 2) := dgX9_copy_3.2.2.2.2.2.2.2.2.1
theorem dX9_copy_104 : decode cX9_copy 104 = .ok (.iload 6, 2) := dgX9_copy_3.2.2.2.2.2.2.2.2.2.1
theorem dX9_copy_106 : decode cX9_copy 106 = .ok (.iload 5, 2) := dgX9_copy_3.2.2.2.2.2.2.2.2.2.2.1
theorem dX9_copy_108 : decode cX9_copy 108 = .ok (.if_icmp .ge 30, 3) := dgX9_copy_3.2.2.2.2.2.2.2.2.2.2.2.1
theorem dX9_copy_111 : decode cX9_copy 111 = .ok (.aload_n 0, 1) := dgX9_copy_3.2.2.2.2.2.2.2.2.2.2.2.2.1
theorem dX9_copy_112 : decode cX9_copy 112 = .ok (.getfield 79, 3) := dgX9_copy_3.2.2.2.2.2.2.2.2.2.2.2.2.2.1
theorem dX9_copy_115 : decode cX9_copy 115 = .ok (.iload 6, 2) := dgX9_copy_3.2.2.2.2.2.2.2.2.2.2.2.2.2.2.1
theorem dX9_copy_117 : decode cX9_copy 117 = .ok (.aload_n 0, 1) := dgX9_copy_3.2.2.2.2.2.2.2.2.2.2.2.2.2.2.2
theorem dgX9_copy_4 : decode cX9_copy 118 = .ok (.getfield 64, 3) ∧ decode cX9_copy 121 = .ok (.bipush 24, 2) ∧ decode cX9_copy 123 = .ok (.iload_n 1, 1) ∧ decode cX9_copy 124 = .ok (.imul, 1) ∧ decode cX9_copy 125 = .ok (.iload_n 2, 1) ∧ decode cX9_copy 126 = .ok (.iadd, 1) ∧ decode cX9_copy 127 = .ok (.iload 6, 2) ∧ decode cX9_copy 129 = .ok (.iadd, 1) ∧ decode cX9_copy 130 = .ok (.iaload, 1) ∧ decode cX9_copy 131 = .ok (.iastore, 1) ∧ decode cX9_copy 132 = .ok (.iinc 6 1, 3) ∧ decode cX9_copy 135 = .ok (.goto (-31), 3) ∧ decode cX9_copy 138 = .ok (.iconst 0, 1) ∧ decode cX9_copy 139 = .ok (.istore 6, 2) ∧ decode cX9_copy 141 = .ok (.iload 6, 2) ∧ decode cX9_copy 143 = .ok (.iload 5, 2) := by decide +kernel
theorem dX9_copy_118 : decode cX9_copy 118 = .ok (.getfield 64, 3) := dgX9_copy_4.1
theorem dX9_copy_121 : decode cX9_copy 121 = .ok (.bipush 24, 2) := dgX9_copy_4.2.1
theorem dX9_copy_123 : decode cX9_copy 123 = .ok (.iload_n 1, 1) := dgX9_copy_4.2.2.1
theorem dX9_copy_124 : decode cX9_copy 124 = .ok (.imul, 1) := dgX9_copy_4.2.2.2.1
theorem dX9_copy_125 : decode cX9_copy 125 = .ok (.iload_n 2, 1) := dgX9_copy_4.2.2.2.2.1
theorem dX9_copy_126 : decode cX9_copy 126 = .ok (.iadd, 1) := dgX9_copy_4.2.2.2.2.2.1
theorem dX9_copy_127 : decode cX9_copy 127 = .ok (.iload 6, 2) := dgX9_copy_4.2.2.2.2.2.2.1
theorem dX9_copy_129 : decode cX9_copy 129 = .ok (.iadd, 1) := dgX9_copy_4.2.2.2.2.2.2.2.1
theorem dX9_copy_130 : decode cX9_copy 130 = .ok (.iaload, 1) := dgX9_copy_4.2.2.2.2.2.2.2.2.1
theorem dX9_copy_131 : decode cX9_copy 131 = .ok (.iastore, 1) := dgX9_copy_4.2.2.2.2.2.2.2.2.2.1
theorem dX9_copy_132 : decode cX9_copy 132 = .ok (.iinc 6 1, 3) := dgX9_copy_4.2.2.2.2.2.2.2.2.2.2.1
theorem dX9_copy_135 : decode cX9_copy 135 = .ok (.goto (-31), 3) := dgX9_copy_4.2.2.2.2.2.2.2.2.2.2.2.1
theorem dX9_copy_138 : decode cX9_copy 138 = .ok (.iconst 0, 1) := dgX9_copy_4.2.2.2.2.2.2.2.2.2.2.2.2.1
theorem dX9_copy_139 : decode cX9_copy 139 = .ok (.istore 6, 2) := dgX9_copy_4.2.2.2.2.2.2.2.2.2.2.2.2.2.1
theorem dX9_copy_141 : decode cX9_copy 141 = .ok (.iload 6, 2) := dgX9_copy_4.2.2.2.2.2.2.2.2.2.2.2.2.2.2.1
theorem dX9_copy_143 : decode cX9_copy 143 = .ok (.iload 5, 2) := dgX9_copy_4.2.2.2.2.2.2.2.2.2.2.2.2.2.2.2
theorem dgX9_copy_5 : decode cX9_copy 145 = .ok (.if_icmp .ge 31, 3) ∧ decode cX9_copy 148 = .ok (.aload_n 0, 1) ∧ decode cX9_copy 149 = .ok (.getfield 64, 3) ∧ decode cX9_copy 152 = .ok (.bipush 24, 2) ∧ decode cX9_copy 154 = .ok (.iload_n 3, 1) ∧ decode cX9_copy 155 = .ok (.imul, 1) ∧ decode cX9_copy 156 = .ok (.iload 4, 2) ∧ decode cX9_copy 158 = .ok (.iadd, 1) ∧ decode cX9_copy 159 = .ok (.iload 6, 2) ∧ decode cX9_copy 161 = .ok (.iadd, 1) ∧ decode cX9_copy 162 = .ok (.aload_n 0, 1) ∧ decode cX9_copy 163 = .ok (.getfield 79, 3) ∧ decode cX9_copy 166 = .ok (.iload 6, 2) ∧ decode cX9_copy 168 = .ok (.iaload, 1) ∧ decode cX9_copy 169 = .ok (.iastore, 1) ∧ decode cX9_copy 170 = .ok (.iinc 6 1, 3) := by decide +kernel
theorem dX9_copy_145 : decode cX9_copy 145 = .ok (.if_icmp .ge 31, 3) := dgX9_copy_5.1
theorem dX9_copy_148 : decode cX9_copy 148 = .ok (.aload_n 0, 1) := dgX9_copy_5.2.1
theorem dX9_copy_149 : decode cX9_copy 149 = .ok (.getfield 64, 3) := dgX9_copy_5.2.2.1
theorem dX9_copy_152 : decode cX9_copy 152 = .ok (.bipush 24, 2) := dgX9_copy_5.2.2.2.1
theorem dX9_copy_154 : decode cX9_copy 154 = .ok (.iload_n 3, 1) := dgX9_copy_5.2.2.2.2.1
theorem dX9_copy_155 : decode cX9_copy 155 = .ok (.imul, 1) := dgX9_copy_5.2.2.2.2.2.1
theorem dX9_copy_156 : decode cX9_copy 156 = .ok (.iload 4, 2) := dgX9_copy_5.2.2.2.2.2.2.1
theorem dX9_copy_158 : decode cX9_copy 158 = .ok (.iadd, 1) := dgX9_copy_5.2.2.2.2.2.2.2.1
theorem dX9_copy_159 : decode cX9_copy 159 = .ok (.iload 6, 2) := dgX9_copy_5.2.2.2.2.2.2.2.2.1
theorem dX9_copy_161 : decode cX9_copy 161 = .ok (.iadd, 1) := dgX9_copy_5.2.2.2.2.2.2.2.2.2.1
theorem dX9_copy_162 : decode cX9_copy 162 = .ok (.aload_n 0, 1) := dgX9_copy_5.2.2.2.2.2.2.2.2.2.2.1
theorem dX9_copy_163 : decode cX9_copy 163 = .ok (.getfield 79, 3) := dgX9_copy_5.2.2.2.2.2.2.2.2.2.2.2.1
theorem dX9_copy_166 : decode cX9_copy 166 = .ok (.iload 6, 2) := dgX9_copy_5.2.2.2.2.2.2.2.2.2.2.2.2.1
theorem dX9_copy_168 : decode cX9_copy 168 = .ok (.iaload, 1) := dgX9_copy_5.2.2.2.2.2.2.2.2.2.2.2.2.2.1
theorem dX9_copy_169 : decode cX9_copy 169 = .ok (.iastore, 1) := dgX9_copy_5.2.2.2.2.2.2.2.2.2.2.2.2.2.2.1
theorem dX9_copy_170 : decode cX9_copy 170 = .ok (.iinc 6 1, 3) := dgX9_copy_5.2.2.2.2.2.2.2.2.2.2.2.2.2.2.2
theorem dgX9_copy_6 : decode cX9_copy 173 = .ok (.goto (-32), 3) ∧ decode cX9_copy 176 = .ok (.iload 5, 2) ∧ decode cX9_copy 178 = .ok (.ireturn, 1) := by decide +kernel
theorem dX9_copy_173 : decode cX9_copy 173 = .ok (.goto (-32), 3) := dgX9_copy_6.1
theorem dX9_copy_176 : decode cX9_copy 176 = .ok (.iload 5, 2) := dgX9_copy_6.2.1
theorem dX9_copy_178 : decode cX9_copy 178 = .ok (.ireturn, 1) := dgX9_copy_6.2.2
abbrev pX9_copy : List Nat := [0, 14, 17, 35, 38, 56, 97, 101, 104, 138, 141, 176]
def bX9_copy_0 (cal : ab_F) : ab_K := o_iload 1 <| o_callS cal 206 1 <| o_if (fun x => decide (x = 0)) 1 <| o_iload 3 <| o_callS cal 206 1 <| o_if (fun x => decide (¬ x = 0)) 2 <| o_goto 1
def bX9_copy_1 (cal : ab_F) : ab_K := o_push (.int (-1000000001)) <| o_ret (some .int)
def bX9_copy_2 (cal : ab_F) : ab_K := o_aload 0 <| o_getf 8 26 <| o_iload 1 <| o_iald 0 <| o_if (fun x => decide (x < 0)) 3 <| o_aload 0 <| o_getf 8 26 <| o_iload 3 <| o_iald 0 <| o_if (fun x => decide (0 ≤ x)) 4 <| o_goto 3
def bX9_copy_3 (cal : ab_F) : ab_K := o_push (.int (-1000000011)) <| o_ret (some .int)
def bX9_copy_4 (cal : ab_F) : ab_K := o_aload 0 <| o_getf 8 26 <| o_iload 1 <| o_iald 0 <| o_aload 0 <| o_getf 8 26 <| o_iload 3 <| o_iald 0 <| o_cmp (fun x y => decide (x = y)) 5 <| o_push (.int (-1000000012)) <| o_ret (some .int)
def bX9_copy_5 (cal : ab_F) : ab_K := o_iload 2 <| o_if (fun x => decide (x < 0)) 6 <| o_iload 4 <| o_if (fun x => decide (x < 0)) 6 <| o_iload 5 <| o_if (fun x => decide (x < 0)) 6 <| o_iload 2 <| o_aload 0 <| o_getf 8 27 <| o_iload 1 <| o_iald 0 <| o_iload 5 <| o_bin (fun x y => x - y) <| o_cmp (fun x y => decide (y < x)) 6 <| o_iload 4 <| o_aload 0 <| o_getf 8 27 <| o_iload 3 <| o_iald 0 <| o_iload 5 <| o_bin (fun x y => x - y) <| o_cmp (fun x y => decide (x ≤ y)) 7 <| o_goto 6
def bX9_copy_6 (cal : ab_F) : ab_K := o_push (.int (-1000000013)) <| o_ret (some .int)
def bX9_copy_7 (cal : ab_F) : ab_K := o_push (.int 0) <| o_istore 6 <| o_goto 8
def bX9_copy_8 (cal : ab_F) : ab_K := o_iload 6 <| o_iload 5 <| o_cmp (fun x y => decide (y ≤ x)) 9 <| o_aload 0 <| o_getf 8 33 <| o_iload 6 <| o_aload 0 <| o_getf 8 28 <| o_push (.int 24) <| o_iload 1 <| o_bin (fun x y => x * y) <| o_iload 2 <| o_bin (fun x y => x + y) <| o_iload 6 <| o_bin (fun x y => x + y) <| o_iald 0 <| o_iast 0 (fun x => x) <| o_iinc 6 1 <| o_goto 8
def bX9_copy_9 (cal : ab_F) : ab_K := o_push (.int 0) <| o_istore 6 <| o_goto 10
def bX9_copy_10 (cal : ab_F) : ab_K := o_iload 6 <| o_iload 5 <| o_cmp (fun x y => decide (y ≤ x)) 11 <| o_aload 0 <| o_getf 8 28 <| o_push (.int 24) <| o_iload 3 <| o_bin (fun x y => x * y) <| o_iload 4 <| o_bin (fun x y => x + y) <| o_iload 6 <| o_bin (fun x y => x + y) <| o_aload 0 <| o_getf 8 33 <| o_iload 6 <| o_iald 0 <| o_iast 0 (fun x => x) <| o_iinc 6 1 <| o_goto 10
def bX9_copy_11 (cal : ab_F) : ab_K := o_iload 5 <| o_ret (some .int)
def bX9_copy (cal : ab_F) : List ab_K := [bX9_copy_0 cal, bX9_copy_1 cal, bX9_copy_2 cal, bX9_copy_3 cal, bX9_copy_4 cal, bX9_copy_5 cal, bX9_copy_6 cal, bX9_copy_7 cal, bX9_copy_8 cal, bX9_copy_9 cal, bX9_copy_10 cal, bX9_copy_11 cal]
set_option maxRecDepth 100000 in
theorem sX9_copy_0 {G : ab_G} {xs : List Int32} {d : Nat} {cal : ab_F} (hcs : ab_CS G (ab_Z G xs) ab_Mf cal d) : ab_Sd G (ab_Z G xs) (d + 1) (ab_mY mX9_copy pX9_copy) 0 (bX9_copy_0 cal) :=
  sn_iload_n dX9_copy_0 rfl <| sq_callS mt_206 hcs dX9_copy_1 w_1329 w_1330 w_63 w_1331 hy_206 hm_206 <| sn_if_eq (tg := 14) dX9_copy_4 rfl rfl <| sn_iload_n dX9_copy_7 rfl <| sq_callS mt_206 hcs dX9_copy_8 w_1329 w_1330 w_63 w_1331 hy_206 hm_206 <| sn_if_ne (tg := 17) dX9_copy_11 rfl rfl <| sn_next rfl
set_option maxRecDepth 100000 in
theorem sX9_copy_1 {G : ab_G} {xs : List Int32} {d : Nat} {cal : ab_F} (hcs : ab_CS G (ab_Z G xs) ab_Mf cal d) : ab_Sd G (ab_Z G xs) (d + 1) (ab_mY mX9_copy pX9_copy) 14 (bX9_copy_1 cal) :=
  sn_ldc dX9_copy_14 w_1109 <| sn_ret dX9_copy_16 ab_ri_int
set_option maxRecDepth 100000 in
theorem sX9_copy_2 {G : ab_G} {xs : List Int32} {d : Nat} {cal : ab_F} (hcs : ab_CS G (ab_Z G xs) ab_Mf cal d) : ab_Sd G (ab_Z G xs) (d + 1) (ab_mY mX9_copy pX9_copy) 17 (bX9_copy_2 cal) :=
  sn_aload_n dX9_copy_17 rfl <| sn_getf dX9_copy_18 rfl hinX9 (by decide) w_1017 <| sn_iload_n dX9_copy_21 rfl <| sn_iald dX9_copy_22 rfl <| sn_if_lt (tg := 35) dX9_copy_23 rfl rfl <| sn_aload_n dX9_copy_26 rfl <| sn_getf dX9_copy_27 rfl hinX9 (by decide) w_1017 <| sn_iload_n dX9_copy_30 rfl <| sn_iald dX9_copy_31 rfl <| sn_if_ge (tg := 38) dX9_copy_32 rfl rfl <| sn_next rfl
set_option maxRecDepth 100000 in
theorem sX9_copy_3 {G : ab_G} {xs : List Int32} {d : Nat} {cal : ab_F} (hcs : ab_CS G (ab_Z G xs) ab_Mf cal d) : ab_Sd G (ab_Z G xs) (d + 1) (ab_mY mX9_copy pX9_copy) 35 (bX9_copy_3 cal) :=
  sn_ldc dX9_copy_35 w_1332 <| sn_ret dX9_copy_37 ab_ri_int
set_option maxRecDepth 100000 in
theorem sX9_copy_4 {G : ab_G} {xs : List Int32} {d : Nat} {cal : ab_F} (hcs : ab_CS G (ab_Z G xs) ab_Mf cal d) : ab_Sd G (ab_Z G xs) (d + 1) (ab_mY mX9_copy pX9_copy) 38 (bX9_copy_4 cal) :=
  sn_aload_n dX9_copy_38 rfl <| sn_getf dX9_copy_39 rfl hinX9 (by decide) w_1017 <| sn_iload_n dX9_copy_42 rfl <| sn_iald dX9_copy_43 rfl <| sn_aload_n dX9_copy_44 rfl <| sn_getf dX9_copy_45 rfl hinX9 (by decide) w_1017 <| sn_iload_n dX9_copy_48 rfl <| sn_iald dX9_copy_49 rfl <| sn_cmp_eq (tg := 56) dX9_copy_50 rfl rfl <| sn_ldc dX9_copy_53 w_1178 <| sn_ret dX9_copy_55 ab_ri_int
set_option maxRecDepth 100000 in
theorem sX9_copy_5 {G : ab_G} {xs : List Int32} {d : Nat} {cal : ab_F} (hcs : ab_CS G (ab_Z G xs) ab_Mf cal d) : ab_Sd G (ab_Z G xs) (d + 1) (ab_mY mX9_copy pX9_copy) 56 (bX9_copy_5 cal) :=
  sn_iload_n dX9_copy_56 rfl <| sn_if_lt (tg := 97) dX9_copy_57 rfl rfl <| sn_iload dX9_copy_60 <| sn_if_lt (tg := 97) dX9_copy_62 rfl rfl <| sn_iload dX9_copy_65 <| sn_if_lt (tg := 97) dX9_copy_67 rfl rfl <| sn_iload_n dX9_copy_70 rfl <| sn_aload_n dX9_copy_71 rfl <| sn_getf dX9_copy_72 rfl hinX9 (by decide) w_1018 <| sn_iload_n dX9_copy_75 rfl <| sn_iald dX9_copy_76 rfl <| sn_iload dX9_copy_77 <| sn_isub dX9_copy_79 <| sn_cmp_gt (tg := 97) dX9_copy_80 rfl rfl <| sn_iload dX9_copy_83 <| sn_aload_n dX9_copy_85 rfl <| sn_getf dX9_copy_86 rfl hinX9 (by decide) w_1018 <| sn_iload_n dX9_copy_89 rfl <| sn_iald dX9_copy_90 rfl <| sn_iload dX9_copy_91 <| sn_isub dX9_copy_93 <| sn_cmp_le (tg := 101) dX9_copy_94 rfl rfl <| sn_next rfl
set_option maxRecDepth 100000 in
theorem sX9_copy_6 {G : ab_G} {xs : List Int32} {d : Nat} {cal : ab_F} (hcs : ab_CS G (ab_Z G xs) ab_Mf cal d) : ab_Sd G (ab_Z G xs) (d + 1) (ab_mY mX9_copy pX9_copy) 97 (bX9_copy_6 cal) :=
  sn_ldcw dX9_copy_97 w_1421 <| sn_ret dX9_copy_100 ab_ri_int
set_option maxRecDepth 100000 in
theorem sX9_copy_7 {G : ab_G} {xs : List Int32} {d : Nat} {cal : ab_F} (hcs : ab_CS G (ab_Z G xs) ab_Mf cal d) : ab_Sd G (ab_Z G xs) (d + 1) (ab_mY mX9_copy pX9_copy) 101 (bX9_copy_7 cal) :=
  sn_iconst dX9_copy_101 rfl <| sn_istore dX9_copy_102 (by decide) <| sn_next rfl
set_option maxRecDepth 100000 in
theorem sX9_copy_8 {G : ab_G} {xs : List Int32} {d : Nat} {cal : ab_F} (hcs : ab_CS G (ab_Z G xs) ab_Mf cal d) : ab_Sd G (ab_Z G xs) (d + 1) (ab_mY mX9_copy pX9_copy) 104 (bX9_copy_8 cal) :=
  sn_iload dX9_copy_104 <| sn_iload dX9_copy_106 <| sn_cmp_ge (tg := 138) dX9_copy_108 rfl rfl <| sn_aload_n dX9_copy_111 rfl <| sn_getf dX9_copy_112 rfl hinX9 (by decide) w_1024 <| sn_iload dX9_copy_115 <| sn_aload_n dX9_copy_117 rfl <| sn_getf dX9_copy_118 rfl hinX9 (by decide) w_1019 <| sn_bipush dX9_copy_121 rfl <| sn_iload_n dX9_copy_123 rfl <| sn_imul dX9_copy_124 <| sn_iload_n dX9_copy_125 rfl <| sn_iadd dX9_copy_126 <| sn_iload dX9_copy_127 <| sn_iadd dX9_copy_129 <| sn_iald dX9_copy_130 rfl <| sn_iast dX9_copy_131 rfl rfl <| sn_iinc dX9_copy_132 rfl (by decide) <| sn_goto (tg := 104) dX9_copy_135 rfl rfl
set_option maxRecDepth 100000 in
theorem sX9_copy_9 {G : ab_G} {xs : List Int32} {d : Nat} {cal : ab_F} (hcs : ab_CS G (ab_Z G xs) ab_Mf cal d) : ab_Sd G (ab_Z G xs) (d + 1) (ab_mY mX9_copy pX9_copy) 138 (bX9_copy_9 cal) :=
  sn_iconst dX9_copy_138 rfl <| sn_istore dX9_copy_139 (by decide) <| sn_next rfl
set_option maxRecDepth 100000 in
theorem sX9_copy_10 {G : ab_G} {xs : List Int32} {d : Nat} {cal : ab_F} (hcs : ab_CS G (ab_Z G xs) ab_Mf cal d) : ab_Sd G (ab_Z G xs) (d + 1) (ab_mY mX9_copy pX9_copy) 141 (bX9_copy_10 cal) :=
  sn_iload dX9_copy_141 <| sn_iload dX9_copy_143 <| sn_cmp_ge (tg := 176) dX9_copy_145 rfl rfl <| sn_aload_n dX9_copy_148 rfl <| sn_getf dX9_copy_149 rfl hinX9 (by decide) w_1019 <| sn_bipush dX9_copy_152 rfl <| sn_iload_n dX9_copy_154 rfl <| sn_imul dX9_copy_155 <| sn_iload dX9_copy_156 <| sn_iadd dX9_copy_158 <| sn_iload dX9_copy_159 <| sn_iadd dX9_copy_161 <| sn_aload_n dX9_copy_162 rfl <| sn_getf dX9_copy_163 rfl hinX9 (by decide) w_1024 <| sn_iload dX9_copy_166 <| sn_iald dX9_copy_168 rfl <| sn_iast dX9_copy_169 rfl rfl <| sn_iinc dX9_copy_170 rfl (by decide) <| sn_goto (tg := 141) dX9_copy_173 rfl rfl
set_option maxRecDepth 100000 in
theorem sX9_copy_11 {G : ab_G} {xs : List Int32} {d : Nat} {cal : ab_F} (hcs : ab_CS G (ab_Z G xs) ab_Mf cal d) : ab_Sd G (ab_Z G xs) (d + 1) (ab_mY mX9_copy pX9_copy) 176 (bX9_copy_11 cal) :=
  sn_iload dX9_copy_176 <| sn_ret dX9_copy_178 ab_ri_int
theorem sX9_copy {G : ab_G} {xs : List Int32} {d : Nat} {cal : ab_F} (hcs : ab_CS G (ab_Z G xs) ab_Mf cal d) : ab_BS G (ab_Z G xs) (d + 1) (ab_mY mX9_copy pX9_copy) pX9_copy (bX9_copy cal) := ⟨sX9_copy_0 hcs, sX9_copy_1 hcs, sX9_copy_2 hcs, sX9_copy_3 hcs, sX9_copy_4 hcs, sX9_copy_5 hcs, sX9_copy_6 hcs, sX9_copy_7 hcs, sX9_copy_8 hcs, sX9_copy_9 hcs, sX9_copy_10 hcs, sX9_copy_11 hcs, trivial⟩
theorem dgX9_lay_0 : decode cX9_lay 0 = .ok (.iload_n 1, 1) ∧ decode cX9_lay 1 = .ok (.invokestatic 284, 3) ∧ decode cX9_lay 4 = .ok (.ifCond .eq 37, 3) ∧ decode cX9_lay 7 = .ok (.iload_n 2, 1) ∧ decode cX9_lay 8 = .ok (.iconst 0, 1) ∧ decode cX9_lay 9 = .ok (.iconst 3, 1) ∧ decode cX9_lay 10 = .ok (.invokestatic 86, 3) ∧ decode cX9_lay 13 = .ok (.ifCond .eq 28, 3) ∧ decode cX9_lay 16 = .ok (.iload_n 2, 1) ∧ decode cX9_lay 17 = .ok (.iconst 1, 1) ∧ decode cX9_lay 18 = .ok (.if_icmp .ne 11, 3) ∧ decode cX9_lay 21 = .ok (.aload_n 0, 1) ∧ decode cX9_lay 22 = .ok (.iload_n 3, 1) ∧ decode cX9_lay 23 = .ok (.invokevirtual 100, 3) ∧ decode cX9_lay 26 = .ok (.ifCond .eq 15, 3) ∧ decode cX9_lay 29 = .ok (.iload_n 2, 1) := by decide +kernel
theorem dX9_lay_0 : decode cX9_lay 0 = .ok (.iload_n 1, 1) := dgX9_lay_0.1
theorem dX9_lay_1 : decode cX9_lay 1 = .ok (.invokestatic 284, 3) := dgX9_lay_0.2.1
theorem dX9_lay_4 : decode cX9_lay 4 = .ok (.ifCond .eq 37, 3) := dgX9_lay_0.2.2.1
theorem dX9_lay_7 : decode cX9_lay 7 = .ok (.iload_n 2, 1) := dgX9_lay_0.2.2.2.1
theorem dX9_lay_8 : decode cX9_lay 8 = .ok (.iconst 0, 1) := dgX9_lay_0.2.2.2.2.1
theorem dX9_lay_9 : decode cX9_lay 9 = .ok (.iconst 3, 1) := dgX9_lay_0.2.2.2.2.2.1
theorem dX9_lay_10 : decode cX9_lay 10 = .ok (.invokestatic 86, 3) := dgX9_lay_0.2.2.2.2.2.2.1
theorem dX9_lay_13 : decode cX9_lay 13 = .ok (.ifCond .eq 28, 3) := dgX9_lay_0.2.2.2.2.2.2.2.1
theorem dX9_lay_16 : decode cX9_lay 16 = .ok (.iload_n 2, 1) := dgX9_lay_0.2.2.2.2.2.2.2.2.1
theorem dX9_lay_17 : decode cX9_lay 17 = .ok (.iconst 1, 1) := dgX9_lay_0.2.2.2.2.2.2.2.2.2.1
theorem dX9_lay_18 : decode cX9_lay 18 = .ok (.if_icmp .ne 11, 3) := dgX9_lay_0.2.2.2.2.2.2.2.2.2.2.1
theorem dX9_lay_21 : decode cX9_lay 21 = .ok (.aload_n 0, 1) := dgX9_lay_0.2.2.2.2.2.2.2.2.2.2.2.1
theorem dX9_lay_22 : decode cX9_lay 22 = .ok (.iload_n 3, 1) := dgX9_lay_0.2.2.2.2.2.2.2.2.2.2.2.2.1
theorem dX9_lay_23 : decode cX9_lay 23 = .ok (.invokevirtual 100, 3) := dgX9_lay_0.2.2.2.2.2.2.2.2.2.2.2.2.2.1
theorem dX9_lay_26 : decode cX9_lay 26 = .ok (.ifCond .eq 15, 3) := dgX9_lay_0.2.2.2.2.2.2.2.2.2.2.2.2.2.2.1
theorem dX9_lay_29 : decode cX9_lay 29 = .ok (.iload_n 2, 1) := dgX9_lay_0.2.2.2.2.2.2.2.2.2.2.2.2.2.2.2
theorem dgX9_lay_1 : decode cX9_lay 30 = .ok (.iconst 2, 1) ∧ decode cX9_lay 31 = .ok (.if_icmp .ne 13, 3) ∧ decode cX9_lay 34 = .ok (.iload_n 3, 1) ∧ decode cX9_lay 35 = .ok (.invokestatic 206, 3) ∧ decode cX9_lay 38 = .ok (.ifCond .ne 6, 3) ∧ decode cX9_lay 41 = .ok (.ldc 90, 2) ∧ decode cX9_lay 43 = .ok (.ireturn, 1) ∧ decode cX9_lay 44 = .ok (.iload_n 2, 1) ∧ decode cX9_lay 45 = .ok (.iconst 2, 1) ∧ decode cX9_lay 46 = .ok (.if_icmp .ne 15, 3) ∧ decode cX9_lay 49 = .ok (.aload_n 0, 1) ∧ decode cX9_lay 50 = .ok (.getfield 58, 3) ∧ decode cX9_lay 53 = .ok (.iload_n 3, 1) ∧ decode cX9_lay 54 = .ok (.iaload, 1) ∧ decode cX9_lay 55 = .ok (.ifCond .ge 6, 3) ∧ decode cX9_lay 58 = .ok (.ldc 209, 2) := by decide +kernel
theorem dX9_lay_30 : decode cX9_lay 30 = .ok (.iconst 2, 1) := dgX9_lay_1.1
theorem dX9_lay_31 : decode cX9_lay 31 = .ok (.if_icmp .ne 13, 3) := dgX9_lay_1.2.1
theorem dX9_lay_34 : decode cX9_lay 34 = .ok (.iload_n 3, 1) := dgX9_lay_1.2.2.1
theorem dX9_lay_35 : decode cX9_lay 35 = .ok (.invokestatic 206, 3) := dgX9_lay_1.2.2.2.1
theorem dX9_lay_38 : decode cX9_lay 38 = .ok (.ifCond .ne 6, 3) := dgX9_lay_1.2.2.2.2.1
theorem dX9_lay_41 : decode cX9_lay 41 = .ok (.ldc 90, 2) := dgX9_lay_1.2.2.2.2.2.1
theorem dX9_lay_43 : decode cX9_lay 43 = .ok (.ireturn, 1) := dgX9_lay_1.2.2.2.2.2.2.1
theorem dX9_lay_44 : decode cX9_lay 44 = .ok (.iload_n 2, 1) := dgX9_lay_1.2.2.2.2.2.2.2.1
theorem dX9_lay_45 : decode cX9_lay 45 = .ok (.iconst 2, 1) := dgX9_lay_1.2.2.2.2.2.2.2.2.1
theorem dX9_lay_46 : decode cX9_lay 46 = .ok (.if_icmp .ne 15, 3) := dgX9_lay_1.2.2.2.2.2.2.2.2.2.1
theorem dX9_lay_49 : decode cX9_lay 49 = .ok (.aload_n 0, 1) := dgX9_lay_1.2.2.2.2.2.2.2.2.2.2.1
theorem dX9_lay_50 : decode cX9_lay 50 = .ok (.getfield 58, 3) := dgX9_lay_1.2.2.2.2.2.2.2.2.2.2.2.1
theorem dX9_lay_53 : decode cX9_lay 53 = .ok (.iload_n 3, 1) := dgX9_lay_1.2.2.2.2.2.2.2.2.2.2.2.2.1
theorem dX9_lay_54 : decode cX9_lay 54 = .ok (.iaload, 1) := dgX9_lay_1.2.2.2.2.2.2.2.2.2.2.2.2.2.1
theorem dX9_lay_55 : decode cX9_lay 55 = .ok (.ifCond .ge 6, 3) := dgX9_lay_1.2.2.2.2.2.2.2.2.2.2.2.2.2.2.1
theorem dX9_lay_58 : decode cX9_lay 58 = .ok (.ldc 209, 2) := dgX9_lay_1.2.2.2.2.2.2.2.2.2.2.2.2.2.2.2
theorem dgX9_lay_2 : decode cX9_lay 60 = .ok (.ireturn, 1) ∧ decode cX9_lay 61 = .ok (.aload_n 0, 1) ∧ decode cX9_lay 62 = .ok (.getfield 67, 3) ∧ decode cX9_lay 65 = .ok (.iload_n 1, 1) ∧ decode cX9_lay 66 = .ok (.iaload, 1) ∧ decode cX9_lay 67 = .ok (.istore 4, 2) ∧ decode cX9_lay 69 = .ok (.aload_n 0, 1) ∧ decode cX9_lay 70 = .ok (.getfield 67, 3) ∧ decode cX9_lay 73 = .ok (.iload_n 1, 1) ∧ decode cX9_lay 74 = .ok (.iload_n 2, 1) ∧ decode cX9_lay 75 = .ok (.iastore, 1) ∧ decode cX9_lay 76 = .ok (.aload_n 0, 1) ∧ decode cX9_lay 77 = .ok (.getfield 70, 3) ∧ decode cX9_lay 80 = .ok (.iload_n 1, 1) ∧ decode cX9_lay 81 = .ok (.iload_n 2, 1) ∧ decode cX9_lay 82 = .ok (.iconst 1, 1) := by decide +kernel
theorem dX9_lay_60 : decode cX9_lay 60 = .ok (.ireturn, 1) := dgX9_lay_2.1
theorem dX9_lay_61 : decode cX9_lay 61 = .ok (.aload_n 0, 1) := dgX9_lay_2.2.1
theorem dX9_lay_62 : decode cX9_lay 62 = .ok (.getfield 67, 3) := dgX9_lay_2.2.2.1
theorem dX9_lay_65 : decode cX9_lay 65 = .ok (.iload_n 1, 1) := dgX9_lay_2.2.2.2.1
theorem dX9_lay_66 : decode cX9_lay 66 = .ok (.iaload, 1) := dgX9_lay_2.2.2.2.2.1
theorem dX9_lay_67 : decode cX9_lay 67 = .ok (.istore 4, 2) := dgX9_lay_2.2.2.2.2.2.1
theorem dX9_lay_69 : decode cX9_lay 69 = .ok (.aload_n 0, 1) := dgX9_lay_2.2.2.2.2.2.2.1
theorem dX9_lay_70 : decode cX9_lay 70 = .ok (.getfield 67, 3) := dgX9_lay_2.2.2.2.2.2.2.2.1
theorem dX9_lay_73 : decode cX9_lay 73 = .ok (.iload_n 1, 1) := dgX9_lay_2.2.2.2.2.2.2.2.2.1
theorem dX9_lay_74 : decode cX9_lay 74 = .ok (.iload_n 2, 1) := dgX9_lay_2.2.2.2.2.2.2.2.2.2.1
theorem dX9_lay_75 : decode cX9_lay 75 = .ok (.iastore, 1) := dgX9_lay_2.2.2.2.2.2.2.2.2.2.2.1
theorem dX9_lay_76 : decode cX9_lay 76 = .ok (.aload_n 0, 1) := dgX9_lay_2.2.2.2.2.2.2.2.2.2.2.2.1
theorem dX9_lay_77 : decode cX9_lay 77 = .ok (.getfield 70, 3) := dgX9_lay_2.2.2.2.2.2.2.2.2.2.2.2.2.1
theorem dX9_lay_80 : decode cX9_lay 80 = .ok (.iload_n 1, 1) := dgX9_lay_2.2.2.2.2.2.2.2.2.2.2.2.2.2.1
theorem dX9_lay_81 : decode cX9_lay 81 = .ok (.iload_n 2, 1) := dgX9_lay_2.2.2.2.2.2.2.2.2.2.2.2.2.2.2.1
theorem dX9_lay_82 : decode cX9_lay 82 = .ok (.iconst 1, 1) := dgX9_lay_2.2.2.2.2.2.2.2.2.2.2.2.2.2.2.2
theorem dgX9_lay_3 : decode cX9_lay 83 = .ok (.if_icmp .ne 12, 3) ∧ decode cX9_lay 86 = .ok (.aload_n 0, 1) ∧ decode cX9_lay 87 = .ok (.iload_n 3, 1) ∧ decode cX9_lay 88 = .ok (.iconst 0, 1) ∧ decode cX9_lay 89 = .ok (.invokevirtual 96, 3) ∧ decode cX9_lay 92 = .ok (.goto 18, 3) ∧ decode cX9_lay 95 = .ok (.iload_n 2, 1) ∧ decode cX9_lay 96 = .ok (.iconst 2, 1) ∧ decode cX9_lay 97 = .ok (.if_icmp .ne 12, 3) ∧ decode cX9_lay 100 = .ok (.aload_n 0, 1) ∧ decode cX9_lay 101 = .ok (.getfield 61, 3) ∧ decode cX9_lay 104 = .ok (.iload_n 3, 1) ∧ decode cX9_lay 105 = .ok (.iaload, 1) ∧ decode cX9_lay 106 = .ok (.goto 4, 3) ∧ decode cX9_lay 109 = .ok (.iload_n 3, 1) ∧ decode cX9_lay 110 = .ok (.iastore, 1) := by decide +kernel
theorem dX9_lay_83 : decode cX9_lay 83 = .ok (.if_icmp .ne 12, 3) := dgX9_lay_3.1
theorem dX9_lay_86 : decode cX9_lay 86 = .ok (.aload_n 0, 1) := dgX9_lay_3.2.1
theorem dX9_lay_87 : decode cX9_lay 87 = .ok (.iload_n 3, 1) := dgX9_lay_3.2.2.1
theorem dX9_lay_88 : decode cX9_lay 88 = .ok (.iconst 0, 1) := dgX9_lay_3.2.2.2.1
theorem dX9_lay_89 : decode cX9_lay 89 = .ok (.invokevirtual 96, 3) := dgX9_lay_3.2.2.2.2.1
theorem dX9_lay_92 : decode cX9_lay 92 = .ok (.goto 18, 3) := dgX9_lay_3.2.2.2.2.2.1
theorem dX9_lay_95 : decode cX9_lay 95 = .ok (.iload_n 2, 1) := dgX9_lay_3.2.2.2.2.2.2.1
theorem dX9_lay_96 : decode cX9_lay 96 = .ok (.iconst 2, 1) := dgX9_lay_3.2.2.2.2.2.2.2.1
theorem dX9_lay_97 : decode cX9_lay 97 = .ok (.if_icmp .ne 12, 3) := dgX9_lay_3.2.2.2.2.2.2.2.2.1
theorem dX9_lay_100 : decode cX9_lay 100 = .ok (.aload_n 0, 1) := dgX9_lay_3.2.2.2.2.2.2.2.2.2.1
theorem dX9_lay_101 : decode cX9_lay 101 = .ok (.getfield 61, 3) := dgX9_lay_3.2.2.2.2.2.2.2.2.2.2.1
theorem dX9_lay_104 : decode cX9_lay 104 = .ok (.iload_n 3, 1) := dgX9_lay_3.2.2.2.2.2.2.2.2.2.2.2.1
theorem dX9_lay_105 : decode cX9_lay 105 = .ok (.iaload, 1) := dgX9_lay_3.2.2.2.2.2.2.2.2.2.2.2.2.1
theorem dX9_lay_106 : decode cX9_lay 106 = .ok (.goto 4, 3) := dgX9_lay_3.2.2.2.2.2.2.2.2.2.2.2.2.2.1
theorem dX9_lay_109 : decode cX9_lay 109 = .ok (.iload_n 3, 1) := dgX9_lay_3.2.2.2.2.2.2.2.2.2.2.2.2.2.2.1
theorem dX9_lay_110 : decode cX9_lay 110 = .ok (.iastore, 1) := dgX9_lay_3.2.2.2.2.2.2.2.2.2.2.2.2.2.2.2
theorem dgX9_lay_4 : decode cX9_lay 111 = .ok (.aload_n 0, 1) ∧ decode cX9_lay 112 = .ok (.getfield 73, 3) ∧ decode cX9_lay 115 = .ok (.iload_n 1, 1) ∧ decode cX9_lay 116 = .ok (.iload_n 2, 1) ∧ decode cX9_lay 117 = .ok (.iconst 1, 1) ∧ decode cX9_lay 118 = .ok (.if_icmp .ne 11, 3) ∧ decode cX9_lay 121 = .ok (.aload_n 0, 1) ∧ decode cX9_lay 122 = .ok (.iload_n 3, 1) ∧ decode cX9_lay 123 = .ok (.invokevirtual 108, 3) ∧ decode cX9_lay 126 = .ok (.goto 4, 3) ∧ decode cX9_lay 129 = .ok (.iconst 0, 1) ∧ decode cX9_lay 130 = .ok (.iastore, 1) ∧ decode cX9_lay 131 = .ok (.iconst 0, 1) ∧ decode cX9_lay 132 = .ok (.istore 5, 2) ∧ decode cX9_lay 134 = .ok (.iload 5, 2) ∧ decode cX9_lay 136 = .ok (.bipush 24, 2) := by decide +kernel
theorem dX9_lay_111 : decode cX9_lay 111 = .ok (.aload_n 0, 1) := dgX9_lay_4.1
theorem dX9_lay_112 : decode cX9_lay 112 = .ok (.getfield 73, 3) := dgX9_lay_4.2.1
theorem dX9_lay_115 : decode cX9_lay 115 = .ok (.iload_n 1, 1) := dgX9_lay_4.2.2.1
theorem dX9_lay_116 : decode cX9_lay 116 = .ok (.iload_n 2, 1) := dgX9_lay_4.2.2.2.1
theorem dX9_lay_117 : decode cX9_lay 117 = .ok (.iconst 1, 1) := dgX9_lay_4.2.2.2.2.1
theorem dX9_lay_118 : decode cX9_lay 118 = .ok (.if_icmp .ne 11, 3) := dgX9_lay_4.2.2.2.2.2.1
theorem dX9_lay_121 : decode cX9_lay 121 = .ok (.aload_n 0, 1) := dgX9_lay_4.2.2.2.2.2.2.1
theorem dX9_lay_122 : decode cX9_lay 122 = .ok (.iload_n 3, 1) := dgX9_lay_4.2.2.2.2.2.2.2.1
theorem dX9_lay_123 : decode cX9_lay 123 = .ok (.invokevirtual 108, 3) := dgX9_lay_4.2.2.2.2.2.2.2.2.1
theorem dX9_lay_126 : decode cX9_lay 126 = .ok (.goto 4, 3) := dgX9_lay_4.2.2.2.2.2.2.2.2.2.1
theorem dX9_lay_129 : decode cX9_lay 129 = .ok (.iconst 0, 1) := dgX9_lay_4.2.2.2.2.2.2.2.2.2.2.1
theorem dX9_lay_130 : decode cX9_lay 130 = .ok (.iastore, 1) := dgX9_lay_4.2.2.2.2.2.2.2.2.2.2.2.1
theorem dX9_lay_131 : decode cX9_lay 131 = .ok (.iconst 0, 1) := dgX9_lay_4.2.2.2.2.2.2.2.2.2.2.2.2.1
theorem dX9_lay_132 : decode cX9_lay 132 = .ok (.istore 5, 2) := dgX9_lay_4.2.2.2.2.2.2.2.2.2.2.2.2.2.1
theorem dX9_lay_134 : decode cX9_lay 134 = .ok (.iload 5, 2) := dgX9_lay_4.2.2.2.2.2.2.2.2.2.2.2.2.2.2.1
theorem dX9_lay_136 : decode cX9_lay 136 = .ok (.bipush 24, 2) := dgX9_lay_4.2.2.2.2.2.2.2.2.2.2.2.2.2.2.2
theorem dgX9_lay_5 : decode cX9_lay 138 = .ok (.if_icmp .ge 38, 3) ∧ decode cX9_lay 141 = .ok (.iload_n 2, 1) ∧ decode cX9_lay 142 = .ok (.iconst 2, 1) ∧ decode cX9_lay 143 = .ok (.if_icmp .ne 33, 3) ∧ decode cX9_lay 146 = .ok (.aload_n 0, 1) ∧ decode cX9_lay 147 = .ok (.getfield 76, 3) ∧ decode cX9_lay 150 = .ok (.bipush 24, 2) ∧ decode cX9_lay 152 = .ok (.iload_n 1, 1) ∧ decode cX9_lay 153 = .ok (.imul, 1) ∧ decode cX9_lay 154 = .ok (.iload 5, 2) ∧ decode cX9_lay 156 = .ok (.iadd, 1) ∧ decode cX9_lay 157 = .ok (.aload_n 0, 1) ∧ decode cX9_lay 158 = .ok (.getfield 64, 3) ∧ decode cX9_lay 161 = .ok (.bipush 24, 2) ∧ decode cX9_lay 163 = .ok (.iload_n 3, 1) ∧ decode cX9_lay 164 = .ok (.imul, 1) := by decide +kernel
theorem dX9_lay_138 : decode cX9_lay 138 = .ok (.if_icmp .ge 38, 3) := dgX9_lay_5.1
theorem dX9_lay_141 : decode cX9_lay 141 = .ok (.iload_n 2, 1) := dgX9_lay_5.2.1
theorem dX9_lay_142 : decode cX9_lay 142 = .ok (.iconst 2, 1) := dgX9_lay_5.2.2.1
theorem dX9_lay_143 : decode cX9_lay 143 = .ok (.if_icmp .ne 33, 3) := dgX9_lay_5.2.2.2.1
theorem dX9_lay_146 : decode cX9_lay 146 = .ok (.aload_n 0, 1) := dgX9_lay_5.2.2.2.2.1
theorem dX9_lay_147 : decode cX9_lay 147 = .ok (.getfield 76, 3) := dgX9_lay_5.2.2.2.2.2.1
theorem dX9_lay_150 : decode cX9_lay 150 = .ok (.bipush 24, 2) := dgX9_lay_5.2.2.2.2.2.2.1
theorem dX9_lay_152 : decode cX9_lay 152 = .ok (.iload_n 1, 1) := dgX9_lay_5.2.2.2.2.2.2.2.1
theorem dX9_lay_153 : decode cX9_lay 153 = .ok (.imul, 1) := dgX9_lay_5.2.2.2.2.2.2.2.2.1
theorem dX9_lay_154 : decode cX9_lay 154 = .ok (.iload 5, 2) := dgX9_lay_5.2.2.2.2.2.2.2.2.2.1
theorem dX9_lay_156 : decode cX9_lay 156 = .ok (.iadd, 1) := dgX9_lay_5.2.2.2.2.2.2.2.2.2.2.1
theorem dX9_lay_157 : decode cX9_lay 157 = .ok (.aload_n 0, 1) := dgX9_lay_5.2.2.2.2.2.2.2.2.2.2.2.1
theorem dX9_lay_158 : decode cX9_lay 158 = .ok (.getfield 64, 3) := dgX9_lay_5.2.2.2.2.2.2.2.2.2.2.2.2.1
theorem dX9_lay_161 : decode cX9_lay 161 = .ok (.bipush 24, 2) := dgX9_lay_5.2.2.2.2.2.2.2.2.2.2.2.2.2.1
theorem dX9_lay_163 : decode cX9_lay 163 = .ok (.iload_n 3, 1) := dgX9_lay_5.2.2.2.2.2.2.2.2.2.2.2.2.2.2.1
theorem dX9_lay_164 : decode cX9_lay 164 = .ok (.imul, 1) := dgX9_lay_5.2.2.2.2.2.2.2.2.2.2.2.2.2.2.2
theorem dgX9_lay_6 : decode cX9_lay 165 = .ok (.iload 5, 2) ∧ decode cX9_lay 167 = .ok (.iadd, 1) ∧ decode cX9_lay 168 = .ok (.iaload, 1) ∧ decode cX9_lay 169 = .ok (.iastore, 1) ∧ decode cX9_lay 170 = .ok (.iinc 5 1, 3) ∧ decode cX9_lay 173 = .ok (.goto (-39), 3) ∧ decode cX9_lay 176 = .ok (.iload 4, 2) ∧ decode cX9_lay 178 = .ok (.ireturn, 1) := by decide +kernel
theorem dX9_lay_165 : decode cX9_lay 165 = .ok (.iload 5, 2) := dgX9_lay_6.1
theorem dX9_lay_167 : decode cX9_lay 167 = .ok (.iadd, 1) := dgX9_lay_6.2.1
theorem dX9_lay_168 : decode cX9_lay 168 = .ok (.iaload, 1) := dgX9_lay_6.2.2.1
theorem dX9_lay_169 : decode cX9_lay 169 = .ok (.iastore, 1) := dgX9_lay_6.2.2.2.1
theorem dX9_lay_170 : decode cX9_lay 170 = .ok (.iinc 5 1, 3) := dgX9_lay_6.2.2.2.2.1
theorem dX9_lay_173 : decode cX9_lay 173 = .ok (.goto (-39), 3) := dgX9_lay_6.2.2.2.2.2.1
theorem dX9_lay_176 : decode cX9_lay 176 = .ok (.iload 4, 2) := dgX9_lay_6.2.2.2.2.2.2.1
theorem dX9_lay_178 : decode cX9_lay 178 = .ok (.ireturn, 1) := dgX9_lay_6.2.2.2.2.2.2.2
abbrev pX9_lay : List Nat := [0, 29, 41, 44, 61, 95, 109, 110, 129, 130, 134, 176]
def bX9_lay_0 (cal : ab_F) : ab_K := o_iload 1 <| o_callS cal 207 1 <| o_if (fun x => decide (x = 0)) 2 <| o_iload 2 <| o_push (.int 0) <| o_push (.int 3) <| o_callS cal 128 3 <| o_if (fun x => decide (x = 0)) 2 <| o_iload 2 <| o_push (.int 1) <| o_cmp (fun x y => decide (¬ x = y)) 1 <| o_aload 0 <| o_iload 3 <| o_callV cal 133 1 8 <| o_if (fun x => decide (x = 0)) 2 <| o_goto 1
def bX9_lay_1 (cal : ab_F) : ab_K := o_iload 2 <| o_push (.int 2) <| o_cmp (fun x y => decide (¬ x = y)) 3 <| o_iload 3 <| o_callS cal 206 1 <| o_if (fun x => decide (¬ x = 0)) 3 <| o_goto 2
def bX9_lay_2 (cal : ab_F) : ab_K := o_push (.int (-1000000001)) <| o_ret (some .int)
def bX9_lay_3 (cal : ab_F) : ab_K := o_iload 2 <| o_push (.int 2) <| o_cmp (fun x y => decide (¬ x = y)) 4 <| o_aload 0 <| o_getf 8 26 <| o_iload 3 <| o_iald 0 <| o_if (fun x => decide (0 ≤ x)) 4 <| o_push (.int (-1000000011)) <| o_ret (some .int)
def bX9_lay_4 (cal : ab_F) : ab_K := o_aload 0 <| o_getf 8 29 <| o_iload 1 <| o_iald 0 <| o_istore 4 <| o_aload 0 <| o_getf 8 29 <| o_iload 1 <| o_iload 2 <| o_iast 0 (fun x => x) <| o_aload 0 <| o_getf 8 30 <| o_iload 1 <| o_iload 2 <| o_push (.int 1) <| o_cmp (fun x y => decide (¬ x = y)) 5 <| o_aload 0 <| o_iload 3 <| o_push (.int 0) <| o_callV cal 135 2 8 <| o_goto 7
def bX9_lay_5 (cal : ab_F) : ab_K := o_iload 2 <| o_push (.int 2) <| o_cmp (fun x y => decide (¬ x = y)) 6 <| o_aload 0 <| o_getf 8 27 <| o_iload 3 <| o_iald 0 <| o_goto 7
def bX9_lay_6 (cal : ab_F) : ab_K := o_iload 3 <| o_goto 7
def bX9_lay_7 (cal : ab_F) : ab_K := o_iast 0 (fun x => x) <| o_aload 0 <| o_getf 8 31 <| o_iload 1 <| o_iload 2 <| o_push (.int 1) <| o_cmp (fun x y => decide (¬ x = y)) 8 <| o_aload 0 <| o_iload 3 <| o_callV cal 140 1 8 <| o_goto 9
def bX9_lay_8 (cal : ab_F) : ab_K := o_push (.int 0) <| o_goto 9
def bX9_lay_9 (cal : ab_F) : ab_K := o_iast 0 (fun x => x) <| o_push (.int 0) <| o_istore 5 <| o_goto 10
def bX9_lay_10 (cal : ab_F) : ab_K := o_iload 5 <| o_push (.int 24) <| o_cmp (fun x y => decide (y ≤ x)) 11 <| o_iload 2 <| o_push (.int 2) <| o_cmp (fun x y => decide (¬ x = y)) 11 <| o_aload 0 <| o_getf 8 32 <| o_push (.int 24) <| o_iload 1 <| o_bin (fun x y => x * y) <| o_iload 5 <| o_bin (fun x y => x + y) <| o_aload 0 <| o_getf 8 28 <| o_push (.int 24) <| o_iload 3 <| o_bin (fun x y => x * y) <| o_iload 5 <| o_bin (fun x y => x + y) <| o_iald 0 <| o_iast 0 (fun x => x) <| o_iinc 5 1 <| o_goto 10
def bX9_lay_11 (cal : ab_F) : ab_K := o_iload 4 <| o_ret (some .int)
def bX9_lay (cal : ab_F) : List ab_K := [bX9_lay_0 cal, bX9_lay_1 cal, bX9_lay_2 cal, bX9_lay_3 cal, bX9_lay_4 cal, bX9_lay_5 cal, bX9_lay_6 cal, bX9_lay_7 cal, bX9_lay_8 cal, bX9_lay_9 cal, bX9_lay_10 cal, bX9_lay_11 cal]
set_option maxRecDepth 100000 in
theorem sX9_lay_0 {G : ab_G} {xs : List Int32} {d : Nat} {cal : ab_F} (hcs : ab_CS G (ab_Z G xs) ab_Mf cal d) : ab_Sd G (ab_Z G xs) (d + 1) (ab_mY mX9_lay pX9_lay) 0 (bX9_lay_0 cal) :=
  sn_iload_n dX9_lay_0 rfl <| sq_callS mt_207 hcs dX9_lay_1 w_1440 w_1441 w_63 w_1442 hy_207 hm_207 <| sn_if_eq (tg := 41) dX9_lay_4 rfl rfl <| sn_iload_n dX9_lay_7 rfl <| sn_iconst dX9_lay_8 rfl <| sn_iconst dX9_lay_9 rfl <| sq_callS mt_128 hcs dX9_lay_10 w_1106 w_1107 w_63 w_1108 hy_128 hm_128 <| sn_if_eq (tg := 41) dX9_lay_13 rfl rfl <| sn_iload_n dX9_lay_16 rfl <| sn_iconst dX9_lay_17 rfl <| sn_cmp_ne (tg := 29) dX9_lay_18 rfl rfl <| sn_aload_n dX9_lay_21 rfl <| sn_iload_n dX9_lay_22 rfl <| sq_callV mt_133 hcs dX9_lay_23 rfl w_1119 w_1121 w_17 w_63 w_1122 hy_133 hm_133 <| sn_if_eq (tg := 41) dX9_lay_26 rfl rfl <| sn_next rfl
set_option maxRecDepth 100000 in
theorem sX9_lay_1 {G : ab_G} {xs : List Int32} {d : Nat} {cal : ab_F} (hcs : ab_CS G (ab_Z G xs) ab_Mf cal d) : ab_Sd G (ab_Z G xs) (d + 1) (ab_mY mX9_lay pX9_lay) 29 (bX9_lay_1 cal) :=
  sn_iload_n dX9_lay_29 rfl <| sn_iconst dX9_lay_30 rfl <| sn_cmp_ne (tg := 44) dX9_lay_31 rfl rfl <| sn_iload_n dX9_lay_34 rfl <| sq_callS mt_206 hcs dX9_lay_35 w_1329 w_1330 w_63 w_1331 hy_206 hm_206 <| sn_if_ne (tg := 44) dX9_lay_38 rfl rfl <| sn_next rfl
set_option maxRecDepth 100000 in
theorem sX9_lay_2 {G : ab_G} {xs : List Int32} {d : Nat} {cal : ab_F} (hcs : ab_CS G (ab_Z G xs) ab_Mf cal d) : ab_Sd G (ab_Z G xs) (d + 1) (ab_mY mX9_lay pX9_lay) 41 (bX9_lay_2 cal) :=
  sn_ldc dX9_lay_41 w_1109 <| sn_ret dX9_lay_43 ab_ri_int
set_option maxRecDepth 100000 in
theorem sX9_lay_3 {G : ab_G} {xs : List Int32} {d : Nat} {cal : ab_F} (hcs : ab_CS G (ab_Z G xs) ab_Mf cal d) : ab_Sd G (ab_Z G xs) (d + 1) (ab_mY mX9_lay pX9_lay) 44 (bX9_lay_3 cal) :=
  sn_iload_n dX9_lay_44 rfl <| sn_iconst dX9_lay_45 rfl <| sn_cmp_ne (tg := 61) dX9_lay_46 rfl rfl <| sn_aload_n dX9_lay_49 rfl <| sn_getf dX9_lay_50 rfl hinX9 (by decide) w_1017 <| sn_iload_n dX9_lay_53 rfl <| sn_iald dX9_lay_54 rfl <| sn_if_ge (tg := 61) dX9_lay_55 rfl rfl <| sn_ldc dX9_lay_58 w_1332 <| sn_ret dX9_lay_60 ab_ri_int
set_option maxRecDepth 100000 in
theorem sX9_lay_4 {G : ab_G} {xs : List Int32} {d : Nat} {cal : ab_F} (hcs : ab_CS G (ab_Z G xs) ab_Mf cal d) : ab_Sd G (ab_Z G xs) (d + 1) (ab_mY mX9_lay pX9_lay) 61 (bX9_lay_4 cal) :=
  sn_aload_n dX9_lay_61 rfl <| sn_getf dX9_lay_62 rfl hinX9 (by decide) w_1020 <| sn_iload_n dX9_lay_65 rfl <| sn_iald dX9_lay_66 rfl <| sn_istore dX9_lay_67 (by decide) <| sn_aload_n dX9_lay_69 rfl <| sn_getf dX9_lay_70 rfl hinX9 (by decide) w_1020 <| sn_iload_n dX9_lay_73 rfl <| sn_iload_n dX9_lay_74 rfl <| sn_iast dX9_lay_75 rfl rfl <| sn_aload_n dX9_lay_76 rfl <| sn_getf dX9_lay_77 rfl hinX9 (by decide) w_1021 <| sn_iload_n dX9_lay_80 rfl <| sn_iload_n dX9_lay_81 rfl <| sn_iconst dX9_lay_82 rfl <| sn_cmp_ne (tg := 95) dX9_lay_83 rfl rfl <| sn_aload_n dX9_lay_86 rfl <| sn_iload_n dX9_lay_87 rfl <| sn_iconst dX9_lay_88 rfl <| sq_callV mt_135 hcs dX9_lay_89 rfl w_1123 w_1125 w_18 w_63 w_1126 hy_135 hm_135 <| sn_goto (tg := 110) dX9_lay_92 rfl rfl
set_option maxRecDepth 100000 in
theorem sX9_lay_5 {G : ab_G} {xs : List Int32} {d : Nat} {cal : ab_F} (hcs : ab_CS G (ab_Z G xs) ab_Mf cal d) : ab_Sd G (ab_Z G xs) (d + 1) (ab_mY mX9_lay pX9_lay) 95 (bX9_lay_5 cal) :=
  sn_iload_n dX9_lay_95 rfl <| sn_iconst dX9_lay_96 rfl <| sn_cmp_ne (tg := 109) dX9_lay_97 rfl rfl <| sn_aload_n dX9_lay_100 rfl <| sn_getf dX9_lay_101 rfl hinX9 (by decide) w_1018 <| sn_iload_n dX9_lay_104 rfl <| sn_iald dX9_lay_105 rfl <| sn_goto (tg := 110) dX9_lay_106 rfl rfl
set_option maxRecDepth 100000 in
theorem sX9_lay_6 {G : ab_G} {xs : List Int32} {d : Nat} {cal : ab_F} (hcs : ab_CS G (ab_Z G xs) ab_Mf cal d) : ab_Sd G (ab_Z G xs) (d + 1) (ab_mY mX9_lay pX9_lay) 109 (bX9_lay_6 cal) :=
  sn_iload_n dX9_lay_109 rfl <| sn_next rfl
set_option maxRecDepth 100000 in
theorem sX9_lay_7 {G : ab_G} {xs : List Int32} {d : Nat} {cal : ab_F} (hcs : ab_CS G (ab_Z G xs) ab_Mf cal d) : ab_Sd G (ab_Z G xs) (d + 1) (ab_mY mX9_lay pX9_lay) 110 (bX9_lay_7 cal) :=
  sn_iast dX9_lay_110 rfl rfl <| sn_aload_n dX9_lay_111 rfl <| sn_getf dX9_lay_112 rfl hinX9 (by decide) w_1022 <| sn_iload_n dX9_lay_115 rfl <| sn_iload_n dX9_lay_116 rfl <| sn_iconst dX9_lay_117 rfl <| sn_cmp_ne (tg := 129) dX9_lay_118 rfl rfl <| sn_aload_n dX9_lay_121 rfl <| sn_iload_n dX9_lay_122 rfl <| sq_callV mt_140 hcs dX9_lay_123 rfl w_1131 w_1133 w_20 w_63 w_1134 hy_140 hm_140 <| sn_goto (tg := 130) dX9_lay_126 rfl rfl
set_option maxRecDepth 100000 in
theorem sX9_lay_8 {G : ab_G} {xs : List Int32} {d : Nat} {cal : ab_F} (hcs : ab_CS G (ab_Z G xs) ab_Mf cal d) : ab_Sd G (ab_Z G xs) (d + 1) (ab_mY mX9_lay pX9_lay) 129 (bX9_lay_8 cal) :=
  sn_iconst dX9_lay_129 rfl <| sn_next rfl
set_option maxRecDepth 100000 in
theorem sX9_lay_9 {G : ab_G} {xs : List Int32} {d : Nat} {cal : ab_F} (hcs : ab_CS G (ab_Z G xs) ab_Mf cal d) : ab_Sd G (ab_Z G xs) (d + 1) (ab_mY mX9_lay pX9_lay) 130 (bX9_lay_9 cal) :=
  sn_iast dX9_lay_130 rfl rfl <| sn_iconst dX9_lay_131 rfl <| sn_istore dX9_lay_132 (by decide) <| sn_next rfl
set_option maxRecDepth 100000 in
theorem sX9_lay_10 {G : ab_G} {xs : List Int32} {d : Nat} {cal : ab_F} (hcs : ab_CS G (ab_Z G xs) ab_Mf cal d) : ab_Sd G (ab_Z G xs) (d + 1) (ab_mY mX9_lay pX9_lay) 134 (bX9_lay_10 cal) :=
  sn_iload dX9_lay_134 <| sn_bipush dX9_lay_136 rfl <| sn_cmp_ge (tg := 176) dX9_lay_138 rfl rfl <| sn_iload_n dX9_lay_141 rfl <| sn_iconst dX9_lay_142 rfl <| sn_cmp_ne (tg := 176) dX9_lay_143 rfl rfl <| sn_aload_n dX9_lay_146 rfl <| sn_getf dX9_lay_147 rfl hinX9 (by decide) w_1023 <| sn_bipush dX9_lay_150 rfl <| sn_iload_n dX9_lay_152 rfl <| sn_imul dX9_lay_153 <| sn_iload dX9_lay_154 <| sn_iadd dX9_lay_156 <| sn_aload_n dX9_lay_157 rfl <| sn_getf dX9_lay_158 rfl hinX9 (by decide) w_1019 <| sn_bipush dX9_lay_161 rfl <| sn_iload_n dX9_lay_163 rfl <| sn_imul dX9_lay_164 <| sn_iload dX9_lay_165 <| sn_iadd dX9_lay_167 <| sn_iald dX9_lay_168 rfl <| sn_iast dX9_lay_169 rfl rfl <| sn_iinc dX9_lay_170 rfl (by decide) <| sn_goto (tg := 134) dX9_lay_173 rfl rfl
set_option maxRecDepth 100000 in
theorem sX9_lay_11 {G : ab_G} {xs : List Int32} {d : Nat} {cal : ab_F} (hcs : ab_CS G (ab_Z G xs) ab_Mf cal d) : ab_Sd G (ab_Z G xs) (d + 1) (ab_mY mX9_lay pX9_lay) 176 (bX9_lay_11 cal) :=
  sn_iload dX9_lay_176 <| sn_ret dX9_lay_178 ab_ri_int
theorem sX9_lay {G : ab_G} {xs : List Int32} {d : Nat} {cal : ab_F} (hcs : ab_CS G (ab_Z G xs) ab_Mf cal d) : ab_BS G (ab_Z G xs) (d + 1) (ab_mY mX9_lay pX9_lay) pX9_lay (bX9_lay cal) := ⟨sX9_lay_0 hcs, sX9_lay_1 hcs, sX9_lay_2 hcs, sX9_lay_3 hcs, sX9_lay_4 hcs, sX9_lay_5 hcs, sX9_lay_6 hcs, sX9_lay_7 hcs, sX9_lay_8 hcs, sX9_lay_9 hcs, sX9_lay_10 hcs, sX9_lay_11 hcs, trivial⟩
theorem dgX9_ask_0 : decode cX9_ask 0 = .ok (.iload_n 1, 1) ∧ decode cX9_ask 1 = .ok (.invokestatic 284, 3) ∧ decode cX9_ask 4 = .ok (.ifCond .eq 12, 3) ∧ decode cX9_ask 7 = .ok (.iload_n 2, 1) ∧ decode cX9_ask 8 = .ok (.iconst 0, 1) ∧ decode cX9_ask 9 = .ok (.iconst 5, 1) ∧ decode cX9_ask 10 = .ok (.invokestatic 86, 3) ∧ decode cX9_ask 13 = .ok (.ifCond .ne 6, 3) ∧ decode cX9_ask 16 = .ok (.ldc 90, 2) ∧ decode cX9_ask 18 = .ok (.ireturn, 1) ∧ decode cX9_ask 19 = .ok (.aload_n 0, 1) ∧ decode cX9_ask 20 = .ok (.getfield 67, 3) ∧ decode cX9_ask 23 = .ok (.iload_n 1, 1) ∧ decode cX9_ask 24 = .ok (.iaload, 1) ∧ decode cX9_ask 25 = .ok (.ifCond .ne 6, 3) ∧ decode cX9_ask 28 = .ok (.ldc 209, 2) := by decide +kernel
theorem dX9_ask_0 : decode cX9_ask 0 = .ok (.iload_n 1, 1) := dgX9_ask_0.1
theorem dX9_ask_1 : decode cX9_ask 1 = .ok (.invokestatic 284, 3) := dgX9_ask_0.2.1
theorem dX9_ask_4 : decode cX9_ask 4 = .ok (.ifCond .eq 12, 3) := dgX9_ask_0.2.2.1
theorem dX9_ask_7 : decode cX9_ask 7 = .ok (.iload_n 2, 1) := dgX9_ask_0.2.2.2.1
theorem dX9_ask_8 : decode cX9_ask 8 = .ok (.iconst 0, 1) := dgX9_ask_0.2.2.2.2.1
theorem dX9_ask_9 : decode cX9_ask 9 = .ok (.iconst 5, 1) := dgX9_ask_0.2.2.2.2.2.1
theorem dX9_ask_10 : decode cX9_ask 10 = .ok (.invokestatic 86, 3) := dgX9_ask_0.2.2.2.2.2.2.1
theorem dX9_ask_13 : decode cX9_ask 13 = .ok (.ifCond .ne 6, 3) := dgX9_ask_0.2.2.2.2.2.2.2.1
theorem dX9_ask_16 : decode cX9_ask 16 = .ok (.ldc 90, 2) := dgX9_ask_0.2.2.2.2.2.2.2.2.1
theorem dX9_ask_18 : decode cX9_ask 18 = .ok (.ireturn, 1) := dgX9_ask_0.2.2.2.2.2.2.2.2.2.1
theorem dX9_ask_19 : decode cX9_ask 19 = .ok (.aload_n 0, 1) := dgX9_ask_0.2.2.2.2.2.2.2.2.2.2.1
theorem dX9_ask_20 : decode cX9_ask 20 = .ok (.getfield 67, 3) := dgX9_ask_0.2.2.2.2.2.2.2.2.2.2.2.1
theorem dX9_ask_23 : decode cX9_ask 23 = .ok (.iload_n 1, 1) := dgX9_ask_0.2.2.2.2.2.2.2.2.2.2.2.2.1
theorem dX9_ask_24 : decode cX9_ask 24 = .ok (.iaload, 1) := dgX9_ask_0.2.2.2.2.2.2.2.2.2.2.2.2.2.1
theorem dX9_ask_25 : decode cX9_ask 25 = .ok (.ifCond .ne 6, 3) := dgX9_ask_0.2.2.2.2.2.2.2.2.2.2.2.2.2.2.1
theorem dX9_ask_28 : decode cX9_ask 28 = .ok (.ldc 209, 2) := dgX9_ask_0.2.2.2.2.2.2.2.2.2.2.2.2.2.2.2
theorem dgX9_ask_1 : decode cX9_ask 30 = .ok (.ireturn, 1) ∧ decode cX9_ask 31 = .ok (.aload_n 0, 1) ∧ decode cX9_ask 32 = .ok (.getfield 67, 3) ∧ decode cX9_ask 35 = .ok (.iload_n 1, 1) ∧ decode cX9_ask 36 = .ok (.iaload, 1) ∧ decode cX9_ask 37 = .ok (.iconst 1, 1) ∧ decode cX9_ask 38 = .ok (.if_icmp .ne 25, 3) ∧ decode cX9_ask 41 = .ok (.aload_n 0, 1) ∧ decode cX9_ask 42 = .ok (.getfield 70, 3) ∧ decode cX9_ask 45 = .ok (.iload_n 1, 1) ∧ decode cX9_ask 46 = .ok (.iaload, 1) ∧ decode cX9_ask 47 = .ok (.iload_n 2, 1) ∧ decode cX9_ask 48 = .ok (.invokestatic 135, 3) ∧ decode cX9_ask 51 = .ok (.ifCond .eq 12, 3) ∧ decode cX9_ask 54 = .ok (.aload_n 0, 1) ∧ decode cX9_ask 55 = .ok (.getfield 73, 3) := by decide +kernel
theorem dX9_ask_30 : decode cX9_ask 30 = .ok (.ireturn, 1) := dgX9_ask_1.1
theorem dX9_ask_31 : decode cX9_ask 31 = .ok (.aload_n 0, 1) := dgX9_ask_1.2.1
theorem dX9_ask_32 : decode cX9_ask 32 = .ok (.getfield 67, 3) := dgX9_ask_1.2.2.1
theorem dX9_ask_35 : decode cX9_ask 35 = .ok (.iload_n 1, 1) := dgX9_ask_1.2.2.2.1
theorem dX9_ask_36 : decode cX9_ask 36 = .ok (.iaload, 1) := dgX9_ask_1.2.2.2.2.1
theorem dX9_ask_37 : decode cX9_ask 37 = .ok (.iconst 1, 1) := dgX9_ask_1.2.2.2.2.2.1
theorem dX9_ask_38 : decode cX9_ask 38 = .ok (.if_icmp .ne 25, 3) := dgX9_ask_1.2.2.2.2.2.2.1
theorem dX9_ask_41 : decode cX9_ask 41 = .ok (.aload_n 0, 1) := dgX9_ask_1.2.2.2.2.2.2.2.1
theorem dX9_ask_42 : decode cX9_ask 42 = .ok (.getfield 70, 3) := dgX9_ask_1.2.2.2.2.2.2.2.2.1
theorem dX9_ask_45 : decode cX9_ask 45 = .ok (.iload_n 1, 1) := dgX9_ask_1.2.2.2.2.2.2.2.2.2.1
theorem dX9_ask_46 : decode cX9_ask 46 = .ok (.iaload, 1) := dgX9_ask_1.2.2.2.2.2.2.2.2.2.2.1
theorem dX9_ask_47 : decode cX9_ask 47 = .ok (.iload_n 2, 1) := dgX9_ask_1.2.2.2.2.2.2.2.2.2.2.2.1
theorem dX9_ask_48 : decode cX9_ask 48 = .ok (.invokestatic 135, 3) := dgX9_ask_1.2.2.2.2.2.2.2.2.2.2.2.2.1
theorem dX9_ask_51 : decode cX9_ask 51 = .ok (.ifCond .eq 12, 3) := dgX9_ask_1.2.2.2.2.2.2.2.2.2.2.2.2.2.1
theorem dX9_ask_54 : decode cX9_ask 54 = .ok (.aload_n 0, 1) := dgX9_ask_1.2.2.2.2.2.2.2.2.2.2.2.2.2.2.1
theorem dX9_ask_55 : decode cX9_ask 55 = .ok (.getfield 73, 3) := dgX9_ask_1.2.2.2.2.2.2.2.2.2.2.2.2.2.2.2
theorem dgX9_ask_2 : decode cX9_ask 58 = .ok (.iload_n 1, 1) ∧ decode cX9_ask 59 = .ok (.iaload, 1) ∧ decode cX9_ask 60 = .ok (.goto 5, 3) ∧ decode cX9_ask 63 = .ok (.ldc 139, 2) ∧ decode cX9_ask 65 = .ok (.ireturn, 1) := by decide +kernel
theorem dX9_ask_58 : decode cX9_ask 58 = .ok (.iload_n 1, 1) := dgX9_ask_2.1
theorem dX9_ask_59 : decode cX9_ask 59 = .ok (.iaload, 1) := dgX9_ask_2.2.1
theorem dX9_ask_60 : decode cX9_ask 60 = .ok (.goto 5, 3) := dgX9_ask_2.2.2.1
theorem dX9_ask_63 : decode cX9_ask 63 = .ok (.ldc 139, 2) := dgX9_ask_2.2.2.2.1
theorem dX9_ask_65 : decode cX9_ask 65 = .ok (.ireturn, 1) := dgX9_ask_2.2.2.2.2
abbrev pX9_ask : List Nat := [0, 16, 19, 31, 63, 65]
def bX9_ask_0 (cal : ab_F) : ab_K := o_iload 1 <| o_callS cal 207 1 <| o_if (fun x => decide (x = 0)) 1 <| o_iload 2 <| o_push (.int 0) <| o_push (.int 5) <| o_callS cal 128 3 <| o_if (fun x => decide (¬ x = 0)) 2 <| o_goto 1
def bX9_ask_1 (cal : ab_F) : ab_K := o_push (.int (-1000000001)) <| o_ret (some .int)
def bX9_ask_2 (cal : ab_F) : ab_K := o_aload 0 <| o_getf 8 29 <| o_iload 1 <| o_iald 0 <| o_if (fun x => decide (¬ x = 0)) 3 <| o_push (.int (-1000000011)) <| o_ret (some .int)
def bX9_ask_3 (cal : ab_F) : ab_K := o_aload 0 <| o_getf 8 29 <| o_iload 1 <| o_iald 0 <| o_push (.int 1) <| o_cmp (fun x y => decide (¬ x = y)) 4 <| o_aload 0 <| o_getf 8 30 <| o_iload 1 <| o_iald 0 <| o_iload 2 <| o_callS cal 146 2 <| o_if (fun x => decide (x = 0)) 4 <| o_aload 0 <| o_getf 8 31 <| o_iload 1 <| o_iald 0 <| o_goto 5
def bX9_ask_4 (cal : ab_F) : ab_K := o_push (.int (-1000000012)) <| o_goto 5
def bX9_ask_5 (cal : ab_F) : ab_K := o_ret (some .int)
def bX9_ask (cal : ab_F) : List ab_K := [bX9_ask_0 cal, bX9_ask_1 cal, bX9_ask_2 cal, bX9_ask_3 cal, bX9_ask_4 cal, bX9_ask_5 cal]
set_option maxRecDepth 100000 in
theorem sX9_ask_0 {G : ab_G} {xs : List Int32} {d : Nat} {cal : ab_F} (hcs : ab_CS G (ab_Z G xs) ab_Mf cal d) : ab_Sd G (ab_Z G xs) (d + 1) (ab_mY mX9_ask pX9_ask) 0 (bX9_ask_0 cal) :=
  sn_iload_n dX9_ask_0 rfl <| sq_callS mt_207 hcs dX9_ask_1 w_1440 w_1441 w_63 w_1442 hy_207 hm_207 <| sn_if_eq (tg := 16) dX9_ask_4 rfl rfl <| sn_iload_n dX9_ask_7 rfl <| sn_iconst dX9_ask_8 rfl <| sn_iconst dX9_ask_9 rfl <| sq_callS mt_128 hcs dX9_ask_10 w_1106 w_1107 w_63 w_1108 hy_128 hm_128 <| sn_if_ne (tg := 19) dX9_ask_13 rfl rfl <| sn_next rfl
set_option maxRecDepth 100000 in
theorem sX9_ask_1 {G : ab_G} {xs : List Int32} {d : Nat} {cal : ab_F} (hcs : ab_CS G (ab_Z G xs) ab_Mf cal d) : ab_Sd G (ab_Z G xs) (d + 1) (ab_mY mX9_ask pX9_ask) 16 (bX9_ask_1 cal) :=
  sn_ldc dX9_ask_16 w_1109 <| sn_ret dX9_ask_18 ab_ri_int
set_option maxRecDepth 100000 in
theorem sX9_ask_2 {G : ab_G} {xs : List Int32} {d : Nat} {cal : ab_F} (hcs : ab_CS G (ab_Z G xs) ab_Mf cal d) : ab_Sd G (ab_Z G xs) (d + 1) (ab_mY mX9_ask pX9_ask) 19 (bX9_ask_2 cal) :=
  sn_aload_n dX9_ask_19 rfl <| sn_getf dX9_ask_20 rfl hinX9 (by decide) w_1020 <| sn_iload_n dX9_ask_23 rfl <| sn_iald dX9_ask_24 rfl <| sn_if_ne (tg := 31) dX9_ask_25 rfl rfl <| sn_ldc dX9_ask_28 w_1332 <| sn_ret dX9_ask_30 ab_ri_int
set_option maxRecDepth 100000 in
theorem sX9_ask_3 {G : ab_G} {xs : List Int32} {d : Nat} {cal : ab_F} (hcs : ab_CS G (ab_Z G xs) ab_Mf cal d) : ab_Sd G (ab_Z G xs) (d + 1) (ab_mY mX9_ask pX9_ask) 31 (bX9_ask_3 cal) :=
  sn_aload_n dX9_ask_31 rfl <| sn_getf dX9_ask_32 rfl hinX9 (by decide) w_1020 <| sn_iload_n dX9_ask_35 rfl <| sn_iald dX9_ask_36 rfl <| sn_iconst dX9_ask_37 rfl <| sn_cmp_ne (tg := 63) dX9_ask_38 rfl rfl <| sn_aload_n dX9_ask_41 rfl <| sn_getf dX9_ask_42 rfl hinX9 (by decide) w_1021 <| sn_iload_n dX9_ask_45 rfl <| sn_iald dX9_ask_46 rfl <| sn_iload_n dX9_ask_47 rfl <| sq_callS mt_146 hcs dX9_ask_48 w_1175 w_1176 w_63 w_1177 hy_146 hm_146 <| sn_if_eq (tg := 63) dX9_ask_51 rfl rfl <| sn_aload_n dX9_ask_54 rfl <| sn_getf dX9_ask_55 rfl hinX9 (by decide) w_1022 <| sn_iload_n dX9_ask_58 rfl <| sn_iald dX9_ask_59 rfl <| sn_goto (tg := 65) dX9_ask_60 rfl rfl
set_option maxRecDepth 100000 in
theorem sX9_ask_4 {G : ab_G} {xs : List Int32} {d : Nat} {cal : ab_F} (hcs : ab_CS G (ab_Z G xs) ab_Mf cal d) : ab_Sd G (ab_Z G xs) (d + 1) (ab_mY mX9_ask pX9_ask) 63 (bX9_ask_4 cal) :=
  sn_ldc dX9_ask_63 w_1178 <| sn_next rfl
set_option maxRecDepth 100000 in
theorem sX9_ask_5 {G : ab_G} {xs : List Int32} {d : Nat} {cal : ab_F} (hcs : ab_CS G (ab_Z G xs) ab_Mf cal d) : ab_Sd G (ab_Z G xs) (d + 1) (ab_mY mX9_ask pX9_ask) 65 (bX9_ask_5 cal) :=
  sn_ret dX9_ask_65 ab_ri_int
theorem sX9_ask {G : ab_G} {xs : List Int32} {d : Nat} {cal : ab_F} (hcs : ab_CS G (ab_Z G xs) ab_Mf cal d) : ab_BS G (ab_Z G xs) (d + 1) (ab_mY mX9_ask pX9_ask) pX9_ask (bX9_ask cal) := ⟨sX9_ask_0 hcs, sX9_ask_1 hcs, sX9_ask_2 hcs, sX9_ask_3 hcs, sX9_ask_4 hcs, sX9_ask_5 hcs, trivial⟩
