theorem dgX9_bestFor_0 : decode cX9_bestFor 0 = .ok (.iload_n 1, 1) ∧ decode cX9_bestFor 1 = .ok (.invokestatic 129, 3) ∧ decode cX9_bestFor 4 = .ok (.ifCond .eq 12, 3) ∧ decode cX9_bestFor 7 = .ok (.iload_n 2, 1) ∧ decode cX9_bestFor 8 = .ok (.iconst 0, 1) ∧ decode cX9_bestFor 9 = .ok (.iconst 1, 1) ∧ decode cX9_bestFor 10 = .ok (.invokestatic 86, 3) ∧ decode cX9_bestFor 13 = .ok (.ifCond .ne 6, 3) ∧ decode cX9_bestFor 16 = .ok (.ldc 90, 2) ∧ decode cX9_bestFor 18 = .ok (.ireturn, 1) ∧ decode cX9_bestFor 19 = .ok (.iconst (-1), 1) ∧ decode cX9_bestFor 20 = .ok (.istore_n 3, 1) ∧ decode cX9_bestFor 21 = .ok (.iconst 0, 1) ∧ decode cX9_bestFor 22 = .ok (.istore 4, 2) ∧ decode cX9_bestFor 24 = .ok (.iconst 0, 1) ∧ decode cX9_bestFor 25 = .ok (.istore 5, 2) := by decide +kernel
theorem dX9_bestFor_0 : decode cX9_bestFor 0 = .ok (.iload_n 1, 1) := dgX9_bestFor_0.1
theorem dX9_bestFor_1 : decode cX9_bestFor 1 = .ok (.invokestatic 129, 3) := dgX9_bestFor_0.2.1
theorem dX9_bestFor_4 : decode cX9_bestFor 4 = .ok (.ifCond .eq 12, 3) := dgX9_bestFor_0.2.2.1
theorem dX9_bestFor_7 : decode cX9_bestFor 7 = .ok (.iload_n 2, 1) := dgX9_bestFor_0.2.2.2.1
theorem dX9_bestFor_8 : decode cX9_bestFor 8 = .ok (.iconst 0, 1) := dgX9_bestFor_0.2.2.2.2.1
theorem dX9_bestFor_9 : decode cX9_bestFor 9 = .ok (.iconst 1, 1) := dgX9_bestFor_0.2.2.2.2.2.1
theorem dX9_bestFor_10 : decode cX9_bestFor 10 = .ok (.invokestatic 86, 3) := dgX9_bestFor_0.2.2.2.2.2.2.1
theorem dX9_bestFor_13 : decode cX9_bestFor 13 = .ok (.ifCond .ne 6, 3) := dgX9_bestFor_0.2.2.2.2.2.2.2.1
theorem dX9_bestFor_16 : decode cX9_bestFor 16 = .ok (.ldc 90, 2) := dgX9_bestFor_0.2.2.2.2.2.2.2.2.1
theorem dX9_bestFor_18 : decode cX9_bestFor 18 = .ok (.ireturn, 1) := dgX9_bestFor_0.2.2.2.2.2.2.2.2.2.1
theorem dX9_bestFor_19 : decode cX9_bestFor 19 = .ok (.iconst (-1), 1) := dgX9_bestFor_0.2.2.2.2.2.2.2.2.2.2.1
theorem dX9_bestFor_20 : decode cX9_bestFor 20 = .ok (.istore_n 3, 1) := dgX9_bestFor_0.2.2.2.2.2.2.2.2.2.2.2.1
theorem dX9_bestFor_21 : decode cX9_bestFor 21 = .ok (.iconst 0, 1) := dgX9_bestFor_0.2.2.2.2.2.2.2.2.2.2.2.2.1
theorem dX9_bestFor_22 : decode cX9_bestFor 22 = .ok (.istore 4, 2) := dgX9_bestFor_0.2.2.2.2.2.2.2.2.2.2.2.2.2.1
theorem dX9_bestFor_24 : decode cX9_bestFor 24 = .ok (.iconst 0, 1) := dgX9_bestFor_0.2.2.2.2.2.2.2.2.2.2.2.2.2.2.1
theorem dX9_bestFor_25 : decode cX9_bestFor 25 = .ok (.istore 5, 2) := dgX9_bestFor_0.2.2.2.2.2.2.2.2.2.2.2.2.2.2.2
theorem dgX9_bestFor_1 : decode cX9_bestFor 27 = .ok (.iload 5, 2) ∧ decode cX9_bestFor 29 = .ok (.aload_n 0, 1) ∧ decode cX9_bestFor 30 = .ok (.getfield 9, 3) ∧ decode cX9_bestFor 33 = .ok (.iconst 1, 1) ∧ decode cX9_bestFor 34 = .ok (.iaload, 1) ∧ decode cX9_bestFor 35 = .ok (.if_icmp .ge 36, 3) ∧ decode cX9_bestFor 38 = .ok (.aload_n 0, 1) ∧ decode cX9_bestFor 39 = .ok (.iload 5, 2) ∧ decode cX9_bestFor 41 = .ok (.iload_n 1, 1) ∧ decode cX9_bestFor 42 = .ok (.invokevirtual 177, 3) ∧ decode cX9_bestFor 45 = .ok (.istore 6, 2) ∧ decode cX9_bestFor 47 = .ok (.iload_n 3, 1) ∧ decode cX9_bestFor 48 = .ok (.ifCond .lt 10, 3) ∧ decode cX9_bestFor 51 = .ok (.iload 6, 2) ∧ decode cX9_bestFor 53 = .ok (.iload 4, 2) ∧ decode cX9_bestFor 55 = .ok (.if_icmp .ge 10, 3) := by decide +kernel
theorem dX9_bestFor_27 : decode cX9_bestFor 27 = .ok (.iload 5, 2) := dgX9_bestFor_1.1
theorem dX9_bestFor_29 : decode cX9_bestFor 29 = .ok (.aload_n 0, 1) := dgX9_bestFor_1.2.1
theorem dX9_bestFor_30 : decode cX9_bestFor 30 = .ok (.getfield 9, 3) := dgX9_bestFor_1.2.2.1
theorem dX9_bestFor_33 : decode cX9_bestFor 33 = .ok (.iconst 1, 1) := dgX9_bestFor_1.2.2.2.1
theorem dX9_bestFor_34 : decode cX9_bestFor 34 = .ok (.iaload, 1) := dgX9_bestFor_1.2.2.2.2.1
theorem dX9_bestFor_35 : decode cX9_bestFor 35 = .ok (.if_icmp .ge 36, 3) := dgX9_bestFor_1.2.2.2.2.2.1
theorem dX9_bestFor_38 : decode cX9_bestFor 38 = .ok (.aload_n 0, 1) := dgX9_bestFor_1.2.2.2.2.2.2.1
theorem dX9_bestFor_39 : decode cX9_bestFor 39 = .ok (.iload 5, 2) := dgX9_bestFor_1.2.2.2.2.2.2.2.1
theorem dX9_bestFor_41 : decode cX9_bestFor 41 = .ok (.iload_n 1, 1) := dgX9_bestFor_1.2.2.2.2.2.2.2.2.1
theorem dX9_bestFor_42 : decode cX9_bestFor 42 = .ok (.invokevirtual 177, 3) := dgX9_bestFor_1.2.2.2.2.2.2.2.2.2.1
theorem dX9_bestFor_45 : decode cX9_bestFor 45 = .ok (.istore 6, 2) := dgX9_bestFor_1.2.2.2.2.2.2.2.2.2.2.1
theorem dX9_bestFor_47 : decode cX9_bestFor 47 = .ok (.iload_n 3, 1) := dgX9_bestFor_1.2.2.2.2.2.2.2.2.2.2.2.1
theorem dX9_bestFor_48 : decode cX9_bestFor 48 = .ok (.ifCond .lt 10, 3) := dgX9_bestFor_1.2.2.2.2.2.2.2.2.2.2.2.2.1
theorem dX9_bestFor_51 : decode cX9_bestFor 51 = .ok (.iload 6, 2) := dgX9_bestFor_1.2.2.2.2.2.2.2.2.2.2.2.2.2.1
theorem dX9_bestFor_53 : decode cX9_bestFor 53 = .ok (.iload 4, 2) := dgX9_bestFor_1.2.2.2.2.2.2.2.2.2.2.2.2.2.2.1
theorem dX9_bestFor_55 : decode cX9_bestFor 55 = .ok (.if_icmp .ge 10, 3) := dgX9_bestFor_1.2.2.2.2.2.2.2.2.2.2.2.2.2.2.2
theorem dgX9_bestFor_2 : decode cX9_bestFor 58 = .ok (.iload 5, 2) ∧ decode cX9_bestFor 60 = .ok (.istore_n 3, 1) ∧ decode cX9_bestFor 61 = .ok (.iload 6, 2) ∧ decode cX9_bestFor 63 = .ok (.istore 4, 2) ∧ decode cX9_bestFor 65 = .ok (.iinc 5 1, 3) ∧ decode cX9_bestFor 68 = .ok (.goto (-41), 3) ∧ decode cX9_bestFor 71 = .ok (.iload_n 3, 1) ∧ decode cX9_bestFor 72 = .ok (.ifCond .ge 8, 3) ∧ decode cX9_bestFor 75 = .ok (.ldc 85, 2) ∧ decode cX9_bestFor 77 = .ok (.goto 13, 3) ∧ decode cX9_bestFor 80 = .ok (.iload_n 2, 1) ∧ decode cX9_bestFor 81 = .ok (.ifCond .ne 7, 3) ∧ decode cX9_bestFor 84 = .ok (.iload_n 3, 1) ∧ decode cX9_bestFor 85 = .ok (.goto 5, 3) ∧ decode cX9_bestFor 88 = .ok (.iload 4, 2) ∧ decode cX9_bestFor 90 = .ok (.ireturn, 1) := by decide +kernel
theorem dX9_bestFor_58 : decode cX9_bestFor 58 = .ok (.iload 5, 2) := dgX9_bestFor_2.1
theorem dX9_bestFor_60 : decode cX9_bestFor 60 = .ok (.istore_n 3, 1) := dgX9_bestFor_2.2.1
theorem dX9_bestFor_61 : decode cX9_bestFor 61 = .ok (.iload 6, 2) := dgX9_bestFor_2.2.2.1
theorem dX9_bestFor_63 : decode cX9_bestFor 63 = .ok (.istore 4, 2) := dgX9_bestFor_2.2.2.2.1
theorem dX9_bestFor_65 : decode cX9_bestFor 65 = .ok (.iinc 5 1, 3) := dgX9_bestFor_2.2.2.2.2.1
theorem dX9_bestFor_68 : decode cX9_bestFor 68 = .ok (.goto (-41), 3) := dgX9_bestFor_2.2.2.2.2.2.1
theorem dX9_bestFor_71 : decode cX9_bestFor 71 = .ok (.iload_n 3, 1) := dgX9_bestFor_2.2.2.2.2.2.2.1
theorem dX9_bestFor_72 : decode cX9_bestFor 72 = .ok (.ifCond .ge 8, 3) := dgX9_bestFor_2.2.2.2.2.2.2.2.1
theorem dX9_bestFor_75 : decode cX9_bestFor 75 = .ok (.ldc 85, 2) := dgX9_bestFor_2.2.2.2.2.2.2.2.2.1
theorem dX9_bestFor_77 : decode cX9_bestFor 77 = .ok (.goto 13, 3) := dgX9_bestFor_2.2.2.2.2.2.2.2.2.2.1
theorem dX9_bestFor_80 : decode cX9_bestFor 80 = .ok (.iload_n 2, 1) := dgX9_bestFor_2.2.2.2.2.2.2.2.2.2.2.1
theorem dX9_bestFor_81 : decode cX9_bestFor 81 = .ok (.ifCond .ne 7, 3) := dgX9_bestFor_2.2.2.2.2.2.2.2.2.2.2.2.1
theorem dX9_bestFor_84 : decode cX9_bestFor 84 = .ok (.iload_n 3, 1) := dgX9_bestFor_2.2.2.2.2.2.2.2.2.2.2.2.2.1
theorem dX9_bestFor_85 : decode cX9_bestFor 85 = .ok (.goto 5, 3) := dgX9_bestFor_2.2.2.2.2.2.2.2.2.2.2.2.2.2.1
theorem dX9_bestFor_88 : decode cX9_bestFor 88 = .ok (.iload 4, 2) := dgX9_bestFor_2.2.2.2.2.2.2.2.2.2.2.2.2.2.2.1
theorem dX9_bestFor_90 : decode cX9_bestFor 90 = .ok (.ireturn, 1) := dgX9_bestFor_2.2.2.2.2.2.2.2.2.2.2.2.2.2.2.2
abbrev pX9_bestFor : List Nat := [0, 16, 19, 27, 58, 65, 71, 80, 88, 90]
def bX9_bestFor_0 (cal : ab_F) : ab_K := o_iload 1 <| o_callS cal 134 1 <| o_if (fun x => decide (x = 0)) 1 <| o_iload 2 <| o_push (.int 0) <| o_push (.int 1) <| o_callS cal 128 3 <| o_if (fun x => decide (¬ x = 0)) 2 <| o_goto 1
def bX9_bestFor_1 (cal : ab_F) : ab_K := o_push (.int (-1000000001)) <| o_ret (some .int)
def bX9_bestFor_2 (cal : ab_F) : ab_K := o_push (.int (-1)) <| o_istore 3 <| o_push (.int 0) <| o_istore 4 <| o_push (.int 0) <| o_istore 5 <| o_goto 3
def bX9_bestFor_3 (cal : ab_F) : ab_K := o_iload 5 <| o_aload 0 <| o_getf 8 0 <| o_push (.int 1) <| o_iald 0 <| o_cmp (fun x y => decide (y ≤ x)) 6 <| o_aload 0 <| o_iload 5 <| o_iload 1 <| o_callV cal 166 2 8 <| o_istore 6 <| o_iload 3 <| o_if (fun x => decide (x < 0)) 4 <| o_iload 6 <| o_iload 4 <| o_cmp (fun x y => decide (y ≤ x)) 5 <| o_goto 4
def bX9_bestFor_4 (cal : ab_F) : ab_K := o_iload 5 <| o_istore 3 <| o_iload 6 <| o_istore 4 <| o_goto 5
def bX9_bestFor_5 (cal : ab_F) : ab_K := o_iinc 5 1 <| o_goto 3
def bX9_bestFor_6 (cal : ab_F) : ab_K := o_iload 3 <| o_if (fun x => decide (0 ≤ x)) 7 <| o_push (.int (-1000000005)) <| o_goto 9
def bX9_bestFor_7 (cal : ab_F) : ab_K := o_iload 2 <| o_if (fun x => decide (¬ x = 0)) 8 <| o_iload 3 <| o_goto 9
def bX9_bestFor_8 (cal : ab_F) : ab_K := o_iload 4 <| o_goto 9
def bX9_bestFor_9 (cal : ab_F) : ab_K := o_ret (some .int)
def bX9_bestFor (cal : ab_F) : List ab_K := [bX9_bestFor_0 cal, bX9_bestFor_1 cal, bX9_bestFor_2 cal, bX9_bestFor_3 cal, bX9_bestFor_4 cal, bX9_bestFor_5 cal, bX9_bestFor_6 cal, bX9_bestFor_7 cal, bX9_bestFor_8 cal, bX9_bestFor_9 cal]
set_option maxRecDepth 100000 in
theorem sX9_bestFor_0 {G : ab_G} {xs : List Int32} {d : Nat} {cal : ab_F} (hcs : ab_CS G (ab_Z G xs) ab_Mf cal d) : ab_Sd G (ab_Z G xs) (d + 1) (ab_mY mX9_bestFor pX9_bestFor) 0 (bX9_bestFor_0 cal) :=
  sn_iload_n dX9_bestFor_0 rfl <| sq_callS mt_134 hcs dX9_bestFor_1 w_1139 w_1140 w_63 w_1141 hy_134 hm_134 <| sn_if_eq (tg := 16) dX9_bestFor_4 rfl rfl <| sn_iload_n dX9_bestFor_7 rfl <| sn_iconst dX9_bestFor_8 rfl <| sn_iconst dX9_bestFor_9 rfl <| sq_callS mt_128 hcs dX9_bestFor_10 w_1106 w_1107 w_63 w_1108 hy_128 hm_128 <| sn_if_ne (tg := 19) dX9_bestFor_13 rfl rfl <| sn_next rfl
set_option maxRecDepth 100000 in
theorem sX9_bestFor_1 {G : ab_G} {xs : List Int32} {d : Nat} {cal : ab_F} (hcs : ab_CS G (ab_Z G xs) ab_Mf cal d) : ab_Sd G (ab_Z G xs) (d + 1) (ab_mY mX9_bestFor pX9_bestFor) 16 (bX9_bestFor_1 cal) :=
  sn_ldc dX9_bestFor_16 w_1109 <| sn_ret dX9_bestFor_18 ab_ri_int
set_option maxRecDepth 100000 in
theorem sX9_bestFor_2 {G : ab_G} {xs : List Int32} {d : Nat} {cal : ab_F} (hcs : ab_CS G (ab_Z G xs) ab_Mf cal d) : ab_Sd G (ab_Z G xs) (d + 1) (ab_mY mX9_bestFor pX9_bestFor) 19 (bX9_bestFor_2 cal) :=
  sn_iconst dX9_bestFor_19 rfl <| sn_istore_n dX9_bestFor_20 rfl (by decide) <| sn_iconst dX9_bestFor_21 rfl <| sn_istore dX9_bestFor_22 (by decide) <| sn_iconst dX9_bestFor_24 rfl <| sn_istore dX9_bestFor_25 (by decide) <| sn_next rfl
set_option maxRecDepth 100000 in
theorem sX9_bestFor_3 {G : ab_G} {xs : List Int32} {d : Nat} {cal : ab_F} (hcs : ab_CS G (ab_Z G xs) ab_Mf cal d) : ab_Sd G (ab_Z G xs) (d + 1) (ab_mY mX9_bestFor pX9_bestFor) 27 (bX9_bestFor_3 cal) :=
  sn_iload dX9_bestFor_27 <| sn_aload_n dX9_bestFor_29 rfl <| sn_getf dX9_bestFor_30 rfl hinX9 (by decide) w_991 <| sn_iconst dX9_bestFor_33 rfl <| sn_iald dX9_bestFor_34 rfl <| sn_cmp_ge (tg := 71) dX9_bestFor_35 rfl rfl <| sn_aload_n dX9_bestFor_38 rfl <| sn_iload dX9_bestFor_39 <| sn_iload_n dX9_bestFor_41 rfl <| sq_callV mt_166 hcs dX9_bestFor_42 rfl w_1269 w_1271 w_36 w_63 w_1272 hy_166 hm_166 <| sn_istore dX9_bestFor_45 (by decide) <| sn_iload_n dX9_bestFor_47 rfl <| sn_if_lt (tg := 58) dX9_bestFor_48 rfl rfl <| sn_iload dX9_bestFor_51 <| sn_iload dX9_bestFor_53 <| sn_cmp_ge (tg := 65) dX9_bestFor_55 rfl rfl <| sn_next rfl
set_option maxRecDepth 100000 in
theorem sX9_bestFor_4 {G : ab_G} {xs : List Int32} {d : Nat} {cal : ab_F} (hcs : ab_CS G (ab_Z G xs) ab_Mf cal d) : ab_Sd G (ab_Z G xs) (d + 1) (ab_mY mX9_bestFor pX9_bestFor) 58 (bX9_bestFor_4 cal) :=
  sn_iload dX9_bestFor_58 <| sn_istore_n dX9_bestFor_60 rfl (by decide) <| sn_iload dX9_bestFor_61 <| sn_istore dX9_bestFor_63 (by decide) <| sn_next rfl
set_option maxRecDepth 100000 in
theorem sX9_bestFor_5 {G : ab_G} {xs : List Int32} {d : Nat} {cal : ab_F} (hcs : ab_CS G (ab_Z G xs) ab_Mf cal d) : ab_Sd G (ab_Z G xs) (d + 1) (ab_mY mX9_bestFor pX9_bestFor) 65 (bX9_bestFor_5 cal) :=
  sn_iinc dX9_bestFor_65 rfl (by decide) <| sn_goto (tg := 27) dX9_bestFor_68 rfl rfl
set_option maxRecDepth 100000 in
theorem sX9_bestFor_6 {G : ab_G} {xs : List Int32} {d : Nat} {cal : ab_F} (hcs : ab_CS G (ab_Z G xs) ab_Mf cal d) : ab_Sd G (ab_Z G xs) (d + 1) (ab_mY mX9_bestFor pX9_bestFor) 71 (bX9_bestFor_6 cal) :=
  sn_iload_n dX9_bestFor_71 rfl <| sn_if_ge (tg := 80) dX9_bestFor_72 rfl rfl <| sn_ldc dX9_bestFor_75 w_1260 <| sn_goto (tg := 90) dX9_bestFor_77 rfl rfl
set_option maxRecDepth 100000 in
theorem sX9_bestFor_7 {G : ab_G} {xs : List Int32} {d : Nat} {cal : ab_F} (hcs : ab_CS G (ab_Z G xs) ab_Mf cal d) : ab_Sd G (ab_Z G xs) (d + 1) (ab_mY mX9_bestFor pX9_bestFor) 80 (bX9_bestFor_7 cal) :=
  sn_iload_n dX9_bestFor_80 rfl <| sn_if_ne (tg := 88) dX9_bestFor_81 rfl rfl <| sn_iload_n dX9_bestFor_84 rfl <| sn_goto (tg := 90) dX9_bestFor_85 rfl rfl
set_option maxRecDepth 100000 in
theorem sX9_bestFor_8 {G : ab_G} {xs : List Int32} {d : Nat} {cal : ab_F} (hcs : ab_CS G (ab_Z G xs) ab_Mf cal d) : ab_Sd G (ab_Z G xs) (d + 1) (ab_mY mX9_bestFor pX9_bestFor) 88 (bX9_bestFor_8 cal) :=
  sn_iload dX9_bestFor_88 <| sn_next rfl
set_option maxRecDepth 100000 in
theorem sX9_bestFor_9 {G : ab_G} {xs : List Int32} {d : Nat} {cal : ab_F} (hcs : ab_CS G (ab_Z G xs) ab_Mf cal d) : ab_Sd G (ab_Z G xs) (d + 1) (ab_mY mX9_bestFor pX9_bestFor) 90 (bX9_bestFor_9 cal) :=
  sn_ret dX9_bestFor_90 ab_ri_int
theorem sX9_bestFor {G : ab_G} {xs : List Int32} {d : Nat} {cal : ab_F} (hcs : ab_CS G (ab_Z G xs) ab_Mf cal d) : ab_BS G (ab_Z G xs) (d + 1) (ab_mY mX9_bestFor pX9_bestFor) pX9_bestFor (bX9_bestFor cal) := ⟨sX9_bestFor_0 hcs, sX9_bestFor_1 hcs, sX9_bestFor_2 hcs, sX9_bestFor_3 hcs, sX9_bestFor_4 hcs, sX9_bestFor_5 hcs, sX9_bestFor_6 hcs, sX9_bestFor_7 hcs, sX9_bestFor_8 hcs, sX9_bestFor_9 hcs, trivial⟩
theorem dgX9_change_0 : decode cX9_change 0 = .ok (.aload_n 0, 1) ∧ decode cX9_change 1 = .ok (.iload_n 1, 1) ∧ decode cX9_change 2 = .ok (.iconst 3, 1) ∧ decode cX9_change 3 = .ok (.invokevirtual 96, 3) ∧ decode cX9_change 6 = .ok (.istore_n 3, 1) ∧ decode cX9_change 7 = .ok (.aload_n 0, 1) ∧ decode cX9_change 8 = .ok (.getfield 9, 3) ∧ decode cX9_change 11 = .ok (.bipush 29, 2) ∧ decode cX9_change 13 = .ok (.iconst 5, 1) ∧ decode cX9_change 14 = .ok (.iload_n 1, 1) ∧ decode cX9_change 15 = .ok (.imul, 1) ∧ decode cX9_change 16 = .ok (.iadd, 1) ∧ decode cX9_change 17 = .ok (.iconst 3, 1) ∧ decode cX9_change 18 = .ok (.iadd, 1) ∧ decode cX9_change 19 = .ok (.aload_n 0, 1) ∧ decode cX9_change 20 = .ok (.iload_n 2, 1) := by decide +kernel
theorem dX9_change_0 : decode cX9_change 0 = .ok (.aload_n 0, 1) := dgX9_change_0.1
theorem dX9_change_1 : decode cX9_change 1 = .ok (.iload_n 1, 1) := dgX9_change_0.2.1
theorem dX9_change_2 : decode cX9_change 2 = .ok (.iconst 3, 1) := dgX9_change_0.2.2.1
theorem dX9_change_3 : decode cX9_change 3 = .ok (.invokevirtual 96, 3) := dgX9_change_0.2.2.2.1
theorem dX9_change_6 : decode cX9_change 6 = .ok (.istore_n 3, 1) := dgX9_change_0.2.2.2.2.1
theorem dX9_change_7 : decode cX9_change 7 = .ok (.aload_n 0, 1) := dgX9_change_0.2.2.2.2.2.1
theorem dX9_change_8 : decode cX9_change 8 = .ok (.getfield 9, 3) := dgX9_change_0.2.2.2.2.2.2.1
theorem dX9_change_11 : decode cX9_change 11 = .ok (.bipush 29, 2) := dgX9_change_0.2.2.2.2.2.2.2.1
theorem dX9_change_13 : decode cX9_change 13 = .ok (.iconst 5, 1) := dgX9_change_0.2.2.2.2.2.2.2.2.1
theorem dX9_change_14 : decode cX9_change 14 = .ok (.iload_n 1, 1) := dgX9_change_0.2.2.2.2.2.2.2.2.2.1
theorem dX9_change_15 : decode cX9_change 15 = .ok (.imul, 1) := dgX9_change_0.2.2.2.2.2.2.2.2.2.2.1
theorem dX9_change_16 : decode cX9_change 16 = .ok (.iadd, 1) := dgX9_change_0.2.2.2.2.2.2.2.2.2.2.2.1
theorem dX9_change_17 : decode cX9_change 17 = .ok (.iconst 3, 1) := dgX9_change_0.2.2.2.2.2.2.2.2.2.2.2.2.1
theorem dX9_change_18 : decode cX9_change 18 = .ok (.iadd, 1) := dgX9_change_0.2.2.2.2.2.2.2.2.2.2.2.2.2.1
theorem dX9_change_19 : decode cX9_change 19 = .ok (.aload_n 0, 1) := dgX9_change_0.2.2.2.2.2.2.2.2.2.2.2.2.2.2.1
theorem dX9_change_20 : decode cX9_change 20 = .ok (.iload_n 2, 1) := dgX9_change_0.2.2.2.2.2.2.2.2.2.2.2.2.2.2.2
theorem dgX9_change_1 : decode cX9_change 21 = .ok (.iconst 3, 1) ∧ decode cX9_change 22 = .ok (.invokevirtual 96, 3) ∧ decode cX9_change 25 = .ok (.iastore, 1) ∧ decode cX9_change 26 = .ok (.aload_n 0, 1) ∧ decode cX9_change 27 = .ok (.getfield 9, 3) ∧ decode cX9_change 30 = .ok (.bipush 29, 2) ∧ decode cX9_change 32 = .ok (.iconst 5, 1) ∧ decode cX9_change 33 = .ok (.iload_n 2, 1) ∧ decode cX9_change 34 = .ok (.imul, 1) ∧ decode cX9_change 35 = .ok (.iadd, 1) ∧ decode cX9_change 36 = .ok (.iconst 3, 1) ∧ decode cX9_change 37 = .ok (.iadd, 1) ∧ decode cX9_change 38 = .ok (.iload_n 3, 1) ∧ decode cX9_change 39 = .ok (.iastore, 1) ∧ decode cX9_change 40 = .ok (.return_, 1) := by decide +kernel
theorem dX9_change_21 : decode cX9_change 21 = .ok (.iconst 3, 1) := dgX9_change_1.1
theorem dX9_change_22 : decode cX9_change 22 = .ok (.invokevirtual 96, 3) := dgX9_change_1.2.1
theorem dX9_change_25 : decode cX9_change 25 = .ok (.iastore, 1) := dgX9_change_1.2.2.1
theorem dX9_change_26 : decode cX9_change 26 = .ok (.aload_n 0, 1) := dgX9_change_1.2.2.2.1
theorem dX9_change_27 : decode cX9_change 27 = .ok (.getfield 9, 3) := dgX9_change_1.2.2.2.2.1
theorem dX9_change_30 : decode cX9_change 30 = .ok (.bipush 29, 2) := dgX9_change_1.2.2.2.2.2.1
theorem dX9_change_32 : decode cX9_change 32 = .ok (.iconst 5, 1) := dgX9_change_1.2.2.2.2.2.2.1
theorem dX9_change_33 : decode cX9_change 33 = .ok (.iload_n 2, 1) := dgX9_change_1.2.2.2.2.2.2.2.1
theorem dX9_change_34 : decode cX9_change 34 = .ok (.imul, 1) := dgX9_change_1.2.2.2.2.2.2.2.2.1
theorem dX9_change_35 : decode cX9_change 35 = .ok (.iadd, 1) := dgX9_change_1.2.2.2.2.2.2.2.2.2.1
theorem dX9_change_36 : decode cX9_change 36 = .ok (.iconst 3, 1) := dgX9_change_1.2.2.2.2.2.2.2.2.2.2.1
theorem dX9_change_37 : decode cX9_change 37 = .ok (.iadd, 1) := dgX9_change_1.2.2.2.2.2.2.2.2.2.2.2.1
theorem dX9_change_38 : decode cX9_change 38 = .ok (.iload_n 3, 1) := dgX9_change_1.2.2.2.2.2.2.2.2.2.2.2.2.1
theorem dX9_change_39 : decode cX9_change 39 = .ok (.iastore, 1) := dgX9_change_1.2.2.2.2.2.2.2.2.2.2.2.2.2.1
theorem dX9_change_40 : decode cX9_change 40 = .ok (.return_, 1) := dgX9_change_1.2.2.2.2.2.2.2.2.2.2.2.2.2.2
abbrev pX9_change : List Nat := [0]
def bX9_change_0 (cal : ab_F) : ab_K := o_aload 0 <| o_iload 1 <| o_push (.int 3) <| o_callV cal 135 2 8 <| o_istore 3 <| o_aload 0 <| o_getf 8 0 <| o_push (.int 29) <| o_push (.int 5) <| o_iload 1 <| o_bin (fun x y => x * y) <| o_bin (fun x y => x + y) <| o_push (.int 3) <| o_bin (fun x y => x + y) <| o_aload 0 <| o_iload 2 <| o_push (.int 3) <| o_callV cal 135 2 8 <| o_iast 0 (fun x => x) <| o_aload 0 <| o_getf 8 0 <| o_push (.int 29) <| o_push (.int 5) <| o_iload 2 <| o_bin (fun x y => x * y) <| o_bin (fun x y => x + y) <| o_push (.int 3) <| o_bin (fun x y => x + y) <| o_iload 3 <| o_iast 0 (fun x => x) <| o_ret none
def bX9_change (cal : ab_F) : List ab_K := [bX9_change_0 cal]
set_option maxRecDepth 100000 in
theorem sX9_change_0 {G : ab_G} {xs : List Int32} {d : Nat} {cal : ab_F} (hcs : ab_CS G (ab_Z G xs) ab_Mf cal d) : ab_Sd G (ab_Z G xs) (d + 1) (ab_mY mX9_change pX9_change) 0 (bX9_change_0 cal) :=
  sn_aload_n dX9_change_0 rfl <| sn_iload_n dX9_change_1 rfl <| sn_iconst dX9_change_2 rfl <| sq_callV mt_135 hcs dX9_change_3 rfl w_1123 w_1125 w_18 w_63 w_1126 hy_135 hm_135 <| sn_istore_n dX9_change_6 rfl (by decide) <| sn_aload_n dX9_change_7 rfl <| sn_getf dX9_change_8 rfl hinX9 (by decide) w_991 <| sn_bipush dX9_change_11 rfl <| sn_iconst dX9_change_13 rfl <| sn_iload_n dX9_change_14 rfl <| sn_imul dX9_change_15 <| sn_iadd dX9_change_16 <| sn_iconst dX9_change_17 rfl <| sn_iadd dX9_change_18 <| sn_aload_n dX9_change_19 rfl <| sn_iload_n dX9_change_20 rfl <| sn_iconst dX9_change_21 rfl <| sq_callV mt_135 hcs dX9_change_22 rfl w_1123 w_1125 w_18 w_63 w_1126 hy_135 hm_135 <| sn_iast dX9_change_25 rfl rfl <| sn_aload_n dX9_change_26 rfl <| sn_getf dX9_change_27 rfl hinX9 (by decide) w_991 <| sn_bipush dX9_change_30 rfl <| sn_iconst dX9_change_32 rfl <| sn_iload_n dX9_change_33 rfl <| sn_imul dX9_change_34 <| sn_iadd dX9_change_35 <| sn_iconst dX9_change_36 rfl <| sn_iadd dX9_change_37 <| sn_iload_n dX9_change_38 rfl <| sn_iast dX9_change_39 rfl rfl <| sn_ret dX9_change_40 ab_ri_void
theorem sX9_change {G : ab_G} {xs : List Int32} {d : Nat} {cal : ab_F} (hcs : ab_CS G (ab_Z G xs) ab_Mf cal d) : ab_BS G (ab_Z G xs) (d + 1) (ab_mY mX9_change pX9_change) pX9_change (bX9_change cal) := ⟨sX9_change_0 hcs, trivial⟩
theorem dgX9_swap_0 : decode cX9_swap 0 = .ok (.iconst (-1), 1) ∧ decode cX9_swap 1 = .ok (.istore_n 1, 1) ∧ decode cX9_swap 2 = .ok (.aload_n 0, 1) ∧ decode cX9_swap 3 = .ok (.invokevirtual 165, 3) ∧ decode cX9_swap 6 = .ok (.istore_n 2, 1) ∧ decode cX9_swap 7 = .ok (.iconst 0, 1) ∧ decode cX9_swap 8 = .ok (.istore_n 3, 1) ∧ decode cX9_swap 9 = .ok (.iload_n 3, 1) ∧ decode cX9_swap 10 = .ok (.aload_n 0, 1) ∧ decode cX9_swap 11 = .ok (.getfield 9, 3) ∧ decode cX9_swap 14 = .ok (.iconst 1, 1) ∧ decode cX9_swap 15 = .ok (.iaload, 1) ∧ decode cX9_swap 16 = .ok (.if_icmp .ge 105, 3) ∧ decode cX9_swap 19 = .ok (.iload_n 3, 1) ∧ decode cX9_swap 20 = .ok (.iconst 1, 1) ∧ decode cX9_swap 21 = .ok (.iadd, 1) := by decide +kernel
theorem dX9_swap_0 : decode cX9_swap 0 = .ok (.iconst (-1), 1) := dgX9_swap_0.1
theorem dX9_swap_1 : decode cX9_swap 1 = .ok (.istore_n 1, 1) := dgX9_swap_0.2.1
theorem dX9_swap_2 : decode cX9_swap 2 = .ok (.aload_n 0, 1) := dgX9_swap_0.2.2.1
theorem dX9_swap_3 : decode cX9_swap 3 = .ok (.invokevirtual 165, 3) := dgX9_swap_0.2.2.2.1
theorem dX9_swap_6 : decode cX9_swap 6 = .ok (.istore_n 2, 1) := dgX9_swap_0.2.2.2.2.1
theorem dX9_swap_7 : decode cX9_swap 7 = .ok (.iconst 0, 1) := dgX9_swap_0.2.2.2.2.2.1
theorem dX9_swap_8 : decode cX9_swap 8 = .ok (.istore_n 3, 1) := dgX9_swap_0.2.2.2.2.2.2.1
theorem dX9_swap_9 : decode cX9_swap 9 = .ok (.iload_n 3, 1) := dgX9_swap_0.2.2.2.2.2.2.2.1
theorem dX9_swap_10 : decode cX9_swap 10 = .ok (.aload_n 0, 1) := dgX9_swap_0.2.2.2.2.2.2.2.2.1
theorem dX9_swap_11 : decode cX9_swap 11 = .ok (.getfield 9, 3) := dgX9_swap_0.2.2.2.2.2.2.2.2.2.1
theorem dX9_swap_14 : decode cX9_swap 14 = .ok (.iconst 1, 1) := dgX9_swap_0.2.2.2.2.2.2.2.2.2.2.1
theorem dX9_swap_15 : decode cX9_swap 15 = .ok (.iaload, 1) := dgX9_swap_0.2.2.2.2.2.2.2.2.2.2.2.1
theorem dX9_swap_16 : decode cX9_swap 16 = .ok (.if_icmp .ge 105, 3) := dgX9_swap_0.2.2.2.2.2.2.2.2.2.2.2.2.1
theorem dX9_swap_19 : decode cX9_swap 19 = .ok (.iload_n 3, 1) := dgX9_swap_0.2.2.2.2.2.2.2.2.2.2.2.2.2.1
theorem dX9_swap_20 : decode cX9_swap 20 = .ok (.iconst 1, 1) := dgX9_swap_0.2.2.2.2.2.2.2.2.2.2.2.2.2.2.1
theorem dX9_swap_21 : decode cX9_swap 21 = .ok (.iadd, 1) := dgX9_swap_0.2.2.2.2.2.2.2.2.2.2.2.2.2.2.2
theorem dgX9_swap_1 : decode cX9_swap 22 = .ok (.istore 4, 2) ∧ decode cX9_swap 24 = .ok (.iload 4, 2) ∧ decode cX9_swap 26 = .ok (.aload_n 0, 1) ∧ decode cX9_swap 27 = .ok (.getfield 9, 3) ∧ decode cX9_swap 30 = .ok (.iconst 1, 1) ∧ decode cX9_swap 31 = .ok (.iaload, 1) ∧ decode cX9_swap 32 = .ok (.if_icmp .ge 83, 3) ∧ decode cX9_swap 35 = .ok (.aload_n 0, 1) ∧ decode cX9_swap 36 = .ok (.iload_n 3, 1) ∧ decode cX9_swap 37 = .ok (.iconst 3, 1) ∧ decode cX9_swap 38 = .ok (.invokevirtual 96, 3) ∧ decode cX9_swap 41 = .ok (.bipush 12, 2) ∧ decode cX9_swap 43 = .ok (.if_icmp .eq 66, 3) ∧ decode cX9_swap 46 = .ok (.aload_n 0, 1) ∧ decode cX9_swap 47 = .ok (.iload 4, 2) ∧ decode cX9_swap 49 = .ok (.iconst 3, 1) := by decide +kernel
theorem dX9_swap_22 : decode cX9_swap 22 = .ok (.istore 4, 2) := dgX9_swap_1.1
theorem dX9_swap_24 : decode cX9_swap 24 = .ok (.iload 4, 2) := dgX9_swap_1.2.1
theorem dX9_swap_26 : decode cX9_swap 26 = .ok (.aload_n 0, 1) := dgX9_swap_1.2.2.1
theorem dX9_swap_27 : decode cX9_swap 27 = .ok (.getfield 9, 3) := dgX9_swap_1.2.2.2.1
theorem dX9_swap_30 : decode cX9_swap 30 = .ok (.iconst 1, 1) := dgX9_swap_1.2.2.2.2.1
theorem dX9_swap_31 : decode cX9_swap 31 = .ok (.iaload, 1) := dgX9_swap_1.2.2.2.2.2.1
theorem dX9_swap_32 : decode cX9_swap 32 = .ok (.if_icmp .ge 83, 3) := dgX9_swap_1.2.2.2.2.2.2.1
theorem dX9_swap_35 : decode cX9_swap 35 = .ok (.aload_n 0, 1) := dgX9_swap_1.2.2.2.2.2.2.2.1
theorem dX9_swap_36 : decode cX9_swap 36 = .ok (.iload_n 3, 1) := dgX9_swap_1.2.2.2.2.2.2.2.2.1
theorem dX9_swap_37 : decode cX9_swap 37 = .ok (.iconst 3, 1) := dgX9_swap_1.2.2.2.2.2.2.2.2.2.1
theorem dX9_swap_38 : decode cX9_swap 38 = .ok (.invokevirtual 96, 3) := dgX9_swap_1.2.2.2.2.2.2.2.2.2.2.1
theorem dX9_swap_41 : decode cX9_swap 41 = .ok (.bipush 12, 2) := dgX9_swap_1.2.2.2.2.2.2.2.2.2.2.2.1
theorem dX9_swap_43 : decode cX9_swap 43 = .ok (.if_icmp .eq 66, 3) := dgX9_swap_1.2.2.2.2.2.2.2.2.2.2.2.2.1
theorem dX9_swap_46 : decode cX9_swap 46 = .ok (.aload_n 0, 1) := dgX9_swap_1.2.2.2.2.2.2.2.2.2.2.2.2.2.1
theorem dX9_swap_47 : decode cX9_swap 47 = .ok (.iload 4, 2) := dgX9_swap_1.2.2.2.2.2.2.2.2.2.2.2.2.2.2.1
theorem dX9_swap_49 : decode cX9_swap 49 = .ok (.iconst 3, 1) := dgX9_swap_1.2.2.2.2.2.2.2.2.2.2.2.2.2.2.2
theorem dgX9_swap_2 : decode cX9_swap 50 = .ok (.invokevirtual 96, 3) ∧ decode cX9_swap 53 = .ok (.bipush 12, 2) ∧ decode cX9_swap 55 = .ok (.if_icmp .eq 54, 3) ∧ decode cX9_swap 58 = .ok (.aload_n 0, 1) ∧ decode cX9_swap 59 = .ok (.iload_n 3, 1) ∧ decode cX9_swap 60 = .ok (.iload 4, 2) ∧ decode cX9_swap 62 = .ok (.invokevirtual 183, 3) ∧ decode cX9_swap 65 = .ok (.aload_n 0, 1) ∧ decode cX9_swap 66 = .ok (.invokevirtual 165, 3) ∧ decode cX9_swap 69 = .ok (.istore 5, 2) ∧ decode cX9_swap 71 = .ok (.aload_n 0, 1) ∧ decode cX9_swap 72 = .ok (.iload_n 3, 1) ∧ decode cX9_swap 73 = .ok (.iload 4, 2) ∧ decode cX9_swap 75 = .ok (.invokevirtual 183, 3) ∧ decode cX9_swap 78 = .ok (.iload 5, 2) ∧ decode cX9_swap 80 = .ok (.iload_n 2, 1) := by decide +kernel
theorem dX9_swap_50 : decode cX9_swap 50 = .ok (.invokevirtual 96, 3) := dgX9_swap_2.1
theorem dX9_swap_53 : decode cX9_swap 53 = .ok (.bipush 12, 2) := dgX9_swap_2.2.1
theorem dX9_swap_55 : decode cX9_swap 55 = .ok (.if_icmp .eq 54, 3) := dgX9_swap_2.2.2.1
theorem dX9_swap_58 : decode cX9_swap 58 = .ok (.aload_n 0, 1) := dgX9_swap_2.2.2.2.1
theorem dX9_swap_59 : decode cX9_swap 59 = .ok (.iload_n 3, 1) := dgX9_swap_2.2.2.2.2.1
theorem dX9_swap_60 : decode cX9_swap 60 = .ok (.iload 4, 2) := dgX9_swap_2.2.2.2.2.2.1
theorem dX9_swap_62 : decode cX9_swap 62 = .ok (.invokevirtual 183, 3) := dgX9_swap_2.2.2.2.2.2.2.1
theorem dX9_swap_65 : decode cX9_swap 65 = .ok (.aload_n 0, 1) := dgX9_swap_2.2.2.2.2.2.2.2.1
theorem dX9_swap_66 : decode cX9_swap 66 = .ok (.invokevirtual 165, 3) := dgX9_swap_2.2.2.2.2.2.2.2.2.1
theorem dX9_swap_69 : decode cX9_swap 69 = .ok (.istore 5, 2) := dgX9_swap_2.2.2.2.2.2.2.2.2.2.1
theorem dX9_swap_71 : decode cX9_swap 71 = .ok (.aload_n 0, 1) := dgX9_swap_2.2.2.2.2.2.2.2.2.2.2.1
theorem dX9_swap_72 : decode cX9_swap 72 = .ok (.iload_n 3, 1) := dgX9_swap_2.2.2.2.2.2.2.2.2.2.2.2.1
theorem dX9_swap_73 : decode cX9_swap 73 = .ok (.iload 4, 2) := dgX9_swap_2.2.2.2.2.2.2.2.2.2.2.2.2.1
theorem dX9_swap_75 : decode cX9_swap 75 = .ok (.invokevirtual 183, 3) := dgX9_swap_2.2.2.2.2.2.2.2.2.2.2.2.2.2.1
theorem dX9_swap_78 : decode cX9_swap 78 = .ok (.iload 5, 2) := dgX9_swap_2.2.2.2.2.2.2.2.2.2.2.2.2.2.2.1
theorem dX9_swap_80 : decode cX9_swap 80 = .ok (.iload_n 2, 1) := dgX9_swap_2.2.2.2.2.2.2.2.2.2.2.2.2.2.2.2
theorem dgX9_swap_3 : decode cX9_swap 81 = .ok (.if_icmp .ge 13, 3) ∧ decode cX9_swap 84 = .ok (.bipush 100, 2) ∧ decode cX9_swap 86 = .ok (.iload_n 3, 1) ∧ decode cX9_swap 87 = .ok (.imul, 1) ∧ decode cX9_swap 88 = .ok (.iload 4, 2) ∧ decode cX9_swap 90 = .ok (.iadd, 1) ∧ decode cX9_swap 91 = .ok (.goto 4, 3) ∧ decode cX9_swap 94 = .ok (.iload_n 1, 1) ∧ decode cX9_swap 95 = .ok (.istore_n 1, 1) ∧ decode cX9_swap 96 = .ok (.iload 5, 2) ∧ decode cX9_swap 98 = .ok (.iload_n 2, 1) ∧ decode cX9_swap 99 = .ok (.if_icmp .ge 8, 3) ∧ decode cX9_swap 102 = .ok (.iload 5, 2) ∧ decode cX9_swap 104 = .ok (.goto 4, 3) ∧ decode cX9_swap 107 = .ok (.iload_n 2, 1) ∧ decode cX9_swap 108 = .ok (.istore_n 2, 1) := by decide +kernel
theorem dX9_swap_81 : decode cX9_swap 81 = .ok (.if_icmp .ge 13, 3) := dgX9_swap_3.1
theorem dX9_swap_84 : decode cX9_swap 84 = .ok (.bipush 100, 2) := dgX9_swap_3.2.1
theorem dX9_swap_86 : decode cX9_swap 86 = .ok (.iload_n 3, 1) := dgX9_swap_3.2.2.1
theorem dX9_swap_87 : decode cX9_swap 87 = .ok (.imul, 1) := dgX9_swap_3.2.2.2.1
theorem dX9_swap_88 : decode cX9_swap 88 = .ok (.iload 4, 2) := dgX9_swap_3.2.2.2.2.1
theorem dX9_swap_90 : decode cX9_swap 90 = .ok (.iadd, 1) := dgX9_swap_3.2.2.2.2.2.1
theorem dX9_swap_91 : decode cX9_swap 91 = .ok (.goto 4, 3) := dgX9_swap_3.2.2.2.2.2.2.1
theorem dX9_swap_94 : decode cX9_swap 94 = .ok (.iload_n 1, 1) := dgX9_swap_3.2.2.2.2.2.2.2.1
theorem dX9_swap_95 : decode cX9_swap 95 = .ok (.istore_n 1, 1) := dgX9_swap_3.2.2.2.2.2.2.2.2.1
theorem dX9_swap_96 : decode cX9_swap 96 = .ok (.iload 5, 2) := dgX9_swap_3.2.2.2.2.2.2.2.2.2.1
theorem dX9_swap_98 : decode cX9_swap 98 = .ok (.iload_n 2, 1) := dgX9_swap_3.2.2.2.2.2.2.2.2.2.2.1
theorem dX9_swap_99 : decode cX9_swap 99 = .ok (.if_icmp .ge 8, 3) := dgX9_swap_3.2.2.2.2.2.2.2.2.2.2.2.1
theorem dX9_swap_102 : decode cX9_swap 102 = .ok (.iload 5, 2) := dgX9_swap_3.2.2.2.2.2.2.2.2.2.2.2.2.1
theorem dX9_swap_104 : decode cX9_swap 104 = .ok (.goto 4, 3) := dgX9_swap_3.2.2.2.2.2.2.2.2.2.2.2.2.2.1
theorem dX9_swap_107 : decode cX9_swap 107 = .ok (.iload_n 2, 1) := dgX9_swap_3.2.2.2.2.2.2.2.2.2.2.2.2.2.2.1
theorem dX9_swap_108 : decode cX9_swap 108 = .ok (.istore_n 2, 1) := dgX9_swap_3.2.2.2.2.2.2.2.2.2.2.2.2.2.2.2
theorem dgX9_swap_4 : decode cX9_swap 109 = .ok (.iinc 4 1, 3) ∧ decode cX9_swap 112 = .ok (.goto (-88), 3) ∧ decode cX9_swap 115 = .ok (.iinc 3 1, 3) ∧ decode cX9_swap 118 = .ok (.goto (-109), 3) ∧ decode cX9_swap 121 = .ok (.iload_n 1, 1) ∧ decode cX9_swap 122 = .ok (.invokestatic 171, 3) ∧ decode cX9_swap 125 = .ok (.ireturn, 1) := by decide +kernel
theorem dX9_swap_109 : decode cX9_swap 109 = .ok (.iinc 4 1, 3) := dgX9_swap_4.1
theorem dX9_swap_112 : decode cX9_swap 112 = .ok (.goto (-88), 3) := dgX9_swap_4.2.1
theorem dX9_swap_115 : decode cX9_swap 115 = .ok (.iinc 3 1, 3) := dgX9_swap_4.2.2.1
theorem dX9_swap_118 : decode cX9_swap 118 = .ok (.goto (-109), 3) := dgX9_swap_4.2.2.2.1
theorem dX9_swap_121 : decode cX9_swap 121 = .ok (.iload_n 1, 1) := dgX9_swap_4.2.2.2.2.1
theorem dX9_swap_122 : decode cX9_swap 122 = .ok (.invokestatic 171, 3) := dgX9_swap_4.2.2.2.2.2.1
theorem dX9_swap_125 : decode cX9_swap 125 = .ok (.ireturn, 1) := dgX9_swap_4.2.2.2.2.2.2
abbrev pX9_swap : List Nat := [0, 9, 24, 94, 95, 107, 108, 109, 115, 121]
def bX9_swap_0 (cal : ab_F) : ab_K := o_push (.int (-1)) <| o_istore 1 <| o_aload 0 <| o_callV cal 162 0 8 <| o_istore 2 <| o_push (.int 0) <| o_istore 3 <| o_goto 1
def bX9_swap_1 (cal : ab_F) : ab_K := o_iload 3 <| o_aload 0 <| o_getf 8 0 <| o_push (.int 1) <| o_iald 0 <| o_cmp (fun x y => decide (y ≤ x)) 9 <| o_iload 3 <| o_push (.int 1) <| o_bin (fun x y => x + y) <| o_istore 4 <| o_goto 2
def bX9_swap_2 (cal : ab_F) : ab_K := o_iload 4 <| o_aload 0 <| o_getf 8 0 <| o_push (.int 1) <| o_iald 0 <| o_cmp (fun x y => decide (y ≤ x)) 8 <| o_aload 0 <| o_iload 3 <| o_push (.int 3) <| o_callV cal 135 2 8 <| o_push (.int 12) <| o_cmp (fun x y => decide (x = y)) 7 <| o_aload 0 <| o_iload 4 <| o_push (.int 3) <| o_callV cal 135 2 8 <| o_push (.int 12) <| o_cmp (fun x y => decide (x = y)) 7 <| o_aload 0 <| o_iload 3 <| o_iload 4 <| o_callV cal 171 2 8 <| o_aload 0 <| o_callV cal 162 0 8 <| o_istore 5 <| o_aload 0 <| o_iload 3 <| o_iload 4 <| o_callV cal 171 2 8 <| o_iload 5 <| o_iload 2 <| o_cmp (fun x y => decide (y ≤ x)) 3 <| o_push (.int 100) <| o_iload 3 <| o_bin (fun x y => x * y) <| o_iload 4 <| o_bin (fun x y => x + y) <| o_goto 4
def bX9_swap_3 (cal : ab_F) : ab_K := o_iload 1 <| o_goto 4
def bX9_swap_4 (cal : ab_F) : ab_K := o_istore 1 <| o_iload 5 <| o_iload 2 <| o_cmp (fun x y => decide (y ≤ x)) 5 <| o_iload 5 <| o_goto 6
def bX9_swap_5 (cal : ab_F) : ab_K := o_iload 2 <| o_goto 6
def bX9_swap_6 (cal : ab_F) : ab_K := o_istore 2 <| o_goto 7
def bX9_swap_7 (cal : ab_F) : ab_K := o_iinc 4 1 <| o_goto 2
def bX9_swap_8 (cal : ab_F) : ab_K := o_iinc 3 1 <| o_goto 1
def bX9_swap_9 (cal : ab_F) : ab_K := o_iload 1 <| o_callS cal 132 1 <| o_ret (some .int)
def bX9_swap (cal : ab_F) : List ab_K := [bX9_swap_0 cal, bX9_swap_1 cal, bX9_swap_2 cal, bX9_swap_3 cal, bX9_swap_4 cal, bX9_swap_5 cal, bX9_swap_6 cal, bX9_swap_7 cal, bX9_swap_8 cal, bX9_swap_9 cal]
set_option maxRecDepth 100000 in
theorem sX9_swap_0 {G : ab_G} {xs : List Int32} {d : Nat} {cal : ab_F} (hcs : ab_CS G (ab_Z G xs) ab_Mf cal d) : ab_Sd G (ab_Z G xs) (d + 1) (ab_mY mX9_swap pX9_swap) 0 (bX9_swap_0 cal) :=
  sn_iconst dX9_swap_0 rfl <| sn_istore_n dX9_swap_1 rfl (by decide) <| sn_aload_n dX9_swap_2 rfl <| sq_callV mt_162 hcs dX9_swap_3 rfl w_1245 w_1247 w_33 w_63 w_1248 hy_162 hm_162 <| sn_istore_n dX9_swap_6 rfl (by decide) <| sn_iconst dX9_swap_7 rfl <| sn_istore_n dX9_swap_8 rfl (by decide) <| sn_next rfl
set_option maxRecDepth 100000 in
theorem sX9_swap_1 {G : ab_G} {xs : List Int32} {d : Nat} {cal : ab_F} (hcs : ab_CS G (ab_Z G xs) ab_Mf cal d) : ab_Sd G (ab_Z G xs) (d + 1) (ab_mY mX9_swap pX9_swap) 9 (bX9_swap_1 cal) :=
  sn_iload_n dX9_swap_9 rfl <| sn_aload_n dX9_swap_10 rfl <| sn_getf dX9_swap_11 rfl hinX9 (by decide) w_991 <| sn_iconst dX9_swap_14 rfl <| sn_iald dX9_swap_15 rfl <| sn_cmp_ge (tg := 121) dX9_swap_16 rfl rfl <| sn_iload_n dX9_swap_19 rfl <| sn_iconst dX9_swap_20 rfl <| sn_iadd dX9_swap_21 <| sn_istore dX9_swap_22 (by decide) <| sn_next rfl
set_option maxRecDepth 100000 in
theorem sX9_swap_2 {G : ab_G} {xs : List Int32} {d : Nat} {cal : ab_F} (hcs : ab_CS G (ab_Z G xs) ab_Mf cal d) : ab_Sd G (ab_Z G xs) (d + 1) (ab_mY mX9_swap pX9_swap) 24 (bX9_swap_2 cal) :=
  sn_iload dX9_swap_24 <| sn_aload_n dX9_swap_26 rfl <| sn_getf dX9_swap_27 rfl hinX9 (by decide) w_991 <| sn_iconst dX9_swap_30 rfl <| sn_iald dX9_swap_31 rfl <| sn_cmp_ge (tg := 115) dX9_swap_32 rfl rfl <| sn_aload_n dX9_swap_35 rfl <| sn_iload_n dX9_swap_36 rfl <| sn_iconst dX9_swap_37 rfl <| sq_callV mt_135 hcs dX9_swap_38 rfl w_1123 w_1125 w_18 w_63 w_1126 hy_135 hm_135 <| sn_bipush dX9_swap_41 rfl <| sn_cmp_eq (tg := 109) dX9_swap_43 rfl rfl <| sn_aload_n dX9_swap_46 rfl <| sn_iload dX9_swap_47 <| sn_iconst dX9_swap_49 rfl <| sq_callV mt_135 hcs dX9_swap_50 rfl w_1123 w_1125 w_18 w_63 w_1126 hy_135 hm_135 <| sn_bipush dX9_swap_53 rfl <| sn_cmp_eq (tg := 109) dX9_swap_55 rfl rfl <| sn_aload_n dX9_swap_58 rfl <| sn_iload_n dX9_swap_59 rfl <| sn_iload dX9_swap_60 <| sq_callV mt_171 hcs dX9_swap_62 rfl w_1284 w_1286 w_37 w_63 w_1287 hy_171 hm_171 <| sn_aload_n dX9_swap_65 rfl <| sq_callV mt_162 hcs dX9_swap_66 rfl w_1245 w_1247 w_33 w_63 w_1248 hy_162 hm_162 <| sn_istore dX9_swap_69 (by decide) <| sn_aload_n dX9_swap_71 rfl <| sn_iload_n dX9_swap_72 rfl <| sn_iload dX9_swap_73 <| sq_callV mt_171 hcs dX9_swap_75 rfl w_1284 w_1286 w_37 w_63 w_1287 hy_171 hm_171 <| sn_iload dX9_swap_78 <| sn_iload_n dX9_swap_80 rfl <| sn_cmp_ge (tg := 94) dX9_swap_81 rfl rfl <| sn_bipush dX9_swap_84 rfl <| sn_iload_n dX9_swap_86 rfl <| sn_imul dX9_swap_87 <| sn_iload dX9_swap_88 <| sn_iadd dX9_swap_90 <| sn_goto (tg := 95) dX9_swap_91 rfl rfl
set_option maxRecDepth 100000 in
theorem sX9_swap_3 {G : ab_G} {xs : List Int32} {d : Nat} {cal : ab_F} (hcs : ab_CS G (ab_Z G xs) ab_Mf cal d) : ab_Sd G (ab_Z G xs) (d + 1) (ab_mY mX9_swap pX9_swap) 94 (bX9_swap_3 cal) :=
  sn_iload_n dX9_swap_94 rfl <| sn_next rfl
set_option maxRecDepth 100000 in
theorem sX9_swap_4 {G : ab_G} {xs : List Int32} {d : Nat} {cal : ab_F} (hcs : ab_CS G (ab_Z G xs) ab_Mf cal d) : ab_Sd G (ab_Z G xs) (d + 1) (ab_mY mX9_swap pX9_swap) 95 (bX9_swap_4 cal) :=
  sn_istore_n dX9_swap_95 rfl (by decide) <| sn_iload dX9_swap_96 <| sn_iload_n dX9_swap_98 rfl <| sn_cmp_ge (tg := 107) dX9_swap_99 rfl rfl <| sn_iload dX9_swap_102 <| sn_goto (tg := 108) dX9_swap_104 rfl rfl
set_option maxRecDepth 100000 in
theorem sX9_swap_5 {G : ab_G} {xs : List Int32} {d : Nat} {cal : ab_F} (hcs : ab_CS G (ab_Z G xs) ab_Mf cal d) : ab_Sd G (ab_Z G xs) (d + 1) (ab_mY mX9_swap pX9_swap) 107 (bX9_swap_5 cal) :=
  sn_iload_n dX9_swap_107 rfl <| sn_next rfl
set_option maxRecDepth 100000 in
theorem sX9_swap_6 {G : ab_G} {xs : List Int32} {d : Nat} {cal : ab_F} (hcs : ab_CS G (ab_Z G xs) ab_Mf cal d) : ab_Sd G (ab_Z G xs) (d + 1) (ab_mY mX9_swap pX9_swap) 108 (bX9_swap_6 cal) :=
  sn_istore_n dX9_swap_108 rfl (by decide) <| sn_next rfl
set_option maxRecDepth 100000 in
theorem sX9_swap_7 {G : ab_G} {xs : List Int32} {d : Nat} {cal : ab_F} (hcs : ab_CS G (ab_Z G xs) ab_Mf cal d) : ab_Sd G (ab_Z G xs) (d + 1) (ab_mY mX9_swap pX9_swap) 109 (bX9_swap_7 cal) :=
  sn_iinc dX9_swap_109 rfl (by decide) <| sn_goto (tg := 24) dX9_swap_112 rfl rfl
set_option maxRecDepth 100000 in
theorem sX9_swap_8 {G : ab_G} {xs : List Int32} {d : Nat} {cal : ab_F} (hcs : ab_CS G (ab_Z G xs) ab_Mf cal d) : ab_Sd G (ab_Z G xs) (d + 1) (ab_mY mX9_swap pX9_swap) 115 (bX9_swap_8 cal) :=
  sn_iinc dX9_swap_115 rfl (by decide) <| sn_goto (tg := 9) dX9_swap_118 rfl rfl
set_option maxRecDepth 100000 in
theorem sX9_swap_9 {G : ab_G} {xs : List Int32} {d : Nat} {cal : ab_F} (hcs : ab_CS G (ab_Z G xs) ab_Mf cal d) : ab_Sd G (ab_Z G xs) (d + 1) (ab_mY mX9_swap pX9_swap) 121 (bX9_swap_9 cal) :=
  sn_iload_n dX9_swap_121 rfl <| sq_callS mt_132 hcs dX9_swap_122 w_1257 w_1258 w_63 w_1259 hy_132 hm_132 <| sn_ret dX9_swap_125 ab_ri_int
theorem sX9_swap {G : ab_G} {xs : List Int32} {d : Nat} {cal : ab_F} (hcs : ab_CS G (ab_Z G xs) ab_Mf cal d) : ab_BS G (ab_Z G xs) (d + 1) (ab_mY mX9_swap pX9_swap) pX9_swap (bX9_swap cal) := ⟨sX9_swap_0 hcs, sX9_swap_1 hcs, sX9_swap_2 hcs, sX9_swap_3 hcs, sX9_swap_4 hcs, sX9_swap_5 hcs, sX9_swap_6 hcs, sX9_swap_7 hcs, sX9_swap_8 hcs, sX9_swap_9 hcs, trivial⟩
theorem dgX9_falls_0 : decode cX9_falls 0 = .ok (.iconst 0, 1) ∧ decode cX9_falls 1 = .ok (.istore_n 2, 1) ∧ decode cX9_falls 2 = .ok (.iconst (-1), 1) ∧ decode cX9_falls 3 = .ok (.istore_n 3, 1) ∧ decode cX9_falls 4 = .ok (.iload_n 1, 1) ∧ decode cX9_falls 5 = .ok (.istore 4, 2) ∧ decode cX9_falls 7 = .ok (.iload 4, 2) ∧ decode cX9_falls 9 = .ok (.bipush 12, 2) ∧ decode cX9_falls 11 = .ok (.if_icmp .ge 50, 3) ∧ decode cX9_falls 14 = .ok (.aload_n 0, 1) ∧ decode cX9_falls 15 = .ok (.iload 4, 2) ∧ decode cX9_falls 17 = .ok (.invokevirtual 143, 3) ∧ decode cX9_falls 20 = .ok (.istore 5, 2) ∧ decode cX9_falls 22 = .ok (.iload 5, 2) ∧ decode cX9_falls 24 = .ok (.ifCond .lt 23, 3) ∧ decode cX9_falls 27 = .ok (.iload_n 3, 1) := by decide +kernel
theorem dX9_falls_0 : decode cX9_falls 0 = .ok (.iconst 0, 1) := dgX9_falls_0.1
theorem dX9_falls_1 : decode cX9_falls 1 = .ok (.istore_n 2, 1) := dgX9_falls_0.2.1
theorem dX9_falls_2 : decode cX9_falls 2 = .ok (.iconst (-1), 1) := dgX9_falls_0.2.2.1
theorem dX9_falls_3 : decode cX9_falls 3 = .ok (.istore_n 3, 1) := dgX9_falls_0.2.2.2.1
theorem dX9_falls_4 : decode cX9_falls 4 = .ok (.iload_n 1, 1) := dgX9_falls_0.2.2.2.2.1
theorem dX9_falls_5 : decode cX9_falls 5 = .ok (.istore 4, 2) := dgX9_falls_0.2.2.2.2.2.1
theorem dX9_falls_7 : decode cX9_falls 7 = .ok (.iload 4, 2) := dgX9_falls_0.2.2.2.2.2.2.1
theorem dX9_falls_9 : decode cX9_falls 9 = .ok (.bipush 12, 2) := dgX9_falls_0.2.2.2.2.2.2.2.1
theorem dX9_falls_11 : decode cX9_falls 11 = .ok (.if_icmp .ge 50, 3) := dgX9_falls_0.2.2.2.2.2.2.2.2.1
theorem dX9_falls_14 : decode cX9_falls 14 = .ok (.aload_n 0, 1) := dgX9_falls_0.2.2.2.2.2.2.2.2.2.1
theorem dX9_falls_15 : decode cX9_falls 15 = .ok (.iload 4, 2) := dgX9_falls_0.2.2.2.2.2.2.2.2.2.2.1
theorem dX9_falls_17 : decode cX9_falls 17 = .ok (.invokevirtual 143, 3) := dgX9_falls_0.2.2.2.2.2.2.2.2.2.2.2.1
theorem dX9_falls_20 : decode cX9_falls 20 = .ok (.istore 5, 2) := dgX9_falls_0.2.2.2.2.2.2.2.2.2.2.2.2.1
theorem dX9_falls_22 : decode cX9_falls 22 = .ok (.iload 5, 2) := dgX9_falls_0.2.2.2.2.2.2.2.2.2.2.2.2.2.1
theorem dX9_falls_24 : decode cX9_falls 24 = .ok (.ifCond .lt 23, 3) := dgX9_falls_0.2.2.2.2.2.2.2.2.2.2.2.2.2.2.1
theorem dX9_falls_27 : decode cX9_falls 27 = .ok (.iload_n 3, 1) := dgX9_falls_0.2.2.2.2.2.2.2.2.2.2.2.2.2.2.2
theorem dgX9_falls_1 : decode cX9_falls 28 = .ok (.ifCond .lt 21, 3) ∧ decode cX9_falls 31 = .ok (.aload_n 0, 1) ∧ decode cX9_falls 32 = .ok (.iload 5, 2) ∧ decode cX9_falls 34 = .ok (.invokevirtual 104, 3) ∧ decode cX9_falls 37 = .ok (.iconst 2, 1) ∧ decode cX9_falls 38 = .ok (.aload_n 0, 1) ∧ decode cX9_falls 39 = .ok (.iload_n 3, 1) ∧ decode cX9_falls 40 = .ok (.invokevirtual 104, 3) ∧ decode cX9_falls 43 = .ok (.imul, 1) ∧ decode cX9_falls 44 = .ok (.if_icmp .le 5, 3) ∧ decode cX9_falls 47 = .ok (.iload_n 2, 1) ∧ decode cX9_falls 48 = .ok (.ireturn, 1) ∧ decode cX9_falls 49 = .ok (.iload 5, 2) ∧ decode cX9_falls 51 = .ok (.istore_n 3, 1) ∧ decode cX9_falls 52 = .ok (.iinc 2 1, 3) ∧ decode cX9_falls 55 = .ok (.iinc 4 1, 3) := by decide +kernel
theorem dX9_falls_28 : decode cX9_falls 28 = .ok (.ifCond .lt 21, 3) := dgX9_falls_1.1
theorem dX9_falls_31 : decode cX9_falls 31 = .ok (.aload_n 0, 1) := dgX9_falls_1.2.1
theorem dX9_falls_32 : decode cX9_falls 32 = .ok (.iload 5, 2) := dgX9_falls_1.2.2.1
theorem dX9_falls_34 : decode cX9_falls 34 = .ok (.invokevirtual 104, 3) := dgX9_falls_1.2.2.2.1
theorem dX9_falls_37 : decode cX9_falls 37 = .ok (.iconst 2, 1) := dgX9_falls_1.2.2.2.2.1
theorem dX9_falls_38 : decode cX9_falls 38 = .ok (.aload_n 0, 1) := dgX9_falls_1.2.2.2.2.2.1
theorem dX9_falls_39 : decode cX9_falls 39 = .ok (.iload_n 3, 1) := dgX9_falls_1.2.2.2.2.2.2.1
theorem dX9_falls_40 : decode cX9_falls 40 = .ok (.invokevirtual 104, 3) := dgX9_falls_1.2.2.2.2.2.2.2.1
theorem dX9_falls_43 : decode cX9_falls 43 = .ok (.imul, 1) := dgX9_falls_1.2.2.2.2.2.2.2.2.1
theorem dX9_falls_44 : decode cX9_falls 44 = .ok (.if_icmp .le 5, 3) := dgX9_falls_1.2.2.2.2.2.2.2.2.2.1
theorem dX9_falls_47 : decode cX9_falls 47 = .ok (.iload_n 2, 1) := dgX9_falls_1.2.2.2.2.2.2.2.2.2.2.1
theorem dX9_falls_48 : decode cX9_falls 48 = .ok (.ireturn, 1) := dgX9_falls_1.2.2.2.2.2.2.2.2.2.2.2.1
theorem dX9_falls_49 : decode cX9_falls 49 = .ok (.iload 5, 2) := dgX9_falls_1.2.2.2.2.2.2.2.2.2.2.2.2.1
theorem dX9_falls_51 : decode cX9_falls 51 = .ok (.istore_n 3, 1) := dgX9_falls_1.2.2.2.2.2.2.2.2.2.2.2.2.2.1
theorem dX9_falls_52 : decode cX9_falls 52 = .ok (.iinc 2 1, 3) := dgX9_falls_1.2.2.2.2.2.2.2.2.2.2.2.2.2.2.1
theorem dX9_falls_55 : decode cX9_falls 55 = .ok (.iinc 4 1, 3) := dgX9_falls_1.2.2.2.2.2.2.2.2.2.2.2.2.2.2.2
theorem dgX9_falls_2 : decode cX9_falls 58 = .ok (.goto (-51), 3) ∧ decode cX9_falls 61 = .ok (.iload_n 2, 1) ∧ decode cX9_falls 62 = .ok (.ireturn, 1) := by decide +kernel
theorem dX9_falls_58 : decode cX9_falls 58 = .ok (.goto (-51), 3) := dgX9_falls_2.1
theorem dX9_falls_61 : decode cX9_falls 61 = .ok (.iload_n 2, 1) := dgX9_falls_2.2.1
theorem dX9_falls_62 : decode cX9_falls 62 = .ok (.ireturn, 1) := dgX9_falls_2.2.2
abbrev pX9_falls : List Nat := [0, 7, 47, 49, 61]
def bX9_falls_0 (cal : ab_F) : ab_K := o_push (.int 0) <| o_istore 2 <| o_push (.int (-1)) <| o_istore 3 <| o_iload 1 <| o_istore 4 <| o_goto 1
def bX9_falls_1 (cal : ab_F) : ab_K := o_iload 4 <| o_push (.int 12) <| o_cmp (fun x y => decide (y ≤ x)) 4 <| o_aload 0 <| o_iload 4 <| o_callV cal 149 1 8 <| o_istore 5 <| o_iload 5 <| o_if (fun x => decide (x < 0)) 2 <| o_iload 3 <| o_if (fun x => decide (x < 0)) 3 <| o_aload 0 <| o_iload 5 <| o_callV cal 139 1 8 <| o_push (.int 2) <| o_aload 0 <| o_iload 3 <| o_callV cal 139 1 8 <| o_bin (fun x y => x * y) <| o_cmp (fun x y => decide (x ≤ y)) 3 <| o_goto 2
def bX9_falls_2 (cal : ab_F) : ab_K := o_iload 2 <| o_ret (some .int)
def bX9_falls_3 (cal : ab_F) : ab_K := o_iload 5 <| o_istore 3 <| o_iinc 2 1 <| o_iinc 4 1 <| o_goto 1
def bX9_falls_4 (cal : ab_F) : ab_K := o_iload 2 <| o_ret (some .int)
def bX9_falls (cal : ab_F) : List ab_K := [bX9_falls_0 cal, bX9_falls_1 cal, bX9_falls_2 cal, bX9_falls_3 cal, bX9_falls_4 cal]
set_option maxRecDepth 100000 in
theorem sX9_falls_0 {G : ab_G} {xs : List Int32} {d : Nat} {cal : ab_F} (hcs : ab_CS G (ab_Z G xs) ab_Mf cal d) : ab_Sd G (ab_Z G xs) (d + 1) (ab_mY mX9_falls pX9_falls) 0 (bX9_falls_0 cal) :=
  sn_iconst dX9_falls_0 rfl <| sn_istore_n dX9_falls_1 rfl (by decide) <| sn_iconst dX9_falls_2 rfl <| sn_istore_n dX9_falls_3 rfl (by decide) <| sn_iload_n dX9_falls_4 rfl <| sn_istore dX9_falls_5 (by decide) <| sn_next rfl
set_option maxRecDepth 100000 in
theorem sX9_falls_1 {G : ab_G} {xs : List Int32} {d : Nat} {cal : ab_F} (hcs : ab_CS G (ab_Z G xs) ab_Mf cal d) : ab_Sd G (ab_Z G xs) (d + 1) (ab_mY mX9_falls pX9_falls) 7 (bX9_falls_1 cal) :=
  sn_iload dX9_falls_7 <| sn_bipush dX9_falls_9 rfl <| sn_cmp_ge (tg := 61) dX9_falls_11 rfl rfl <| sn_aload_n dX9_falls_14 rfl <| sn_iload dX9_falls_15 <| sq_callV mt_149 hcs dX9_falls_17 rfl w_1191 w_1193 w_27 w_63 w_1194 hy_149 hm_149 <| sn_istore dX9_falls_20 (by decide) <| sn_iload dX9_falls_22 <| sn_if_lt (tg := 47) dX9_falls_24 rfl rfl <| sn_iload_n dX9_falls_27 rfl <| sn_if_lt (tg := 49) dX9_falls_28 rfl rfl <| sn_aload_n dX9_falls_31 rfl <| sn_iload dX9_falls_32 <| sq_callV mt_139 hcs dX9_falls_34 rfl w_1127 w_1129 w_19 w_63 w_1130 hy_139 hm_139 <| sn_iconst dX9_falls_37 rfl <| sn_aload_n dX9_falls_38 rfl <| sn_iload_n dX9_falls_39 rfl <| sq_callV mt_139 hcs dX9_falls_40 rfl w_1127 w_1129 w_19 w_63 w_1130 hy_139 hm_139 <| sn_imul dX9_falls_43 <| sn_cmp_le (tg := 49) dX9_falls_44 rfl rfl <| sn_next rfl
set_option maxRecDepth 100000 in
theorem sX9_falls_2 {G : ab_G} {xs : List Int32} {d : Nat} {cal : ab_F} (hcs : ab_CS G (ab_Z G xs) ab_Mf cal d) : ab_Sd G (ab_Z G xs) (d + 1) (ab_mY mX9_falls pX9_falls) 47 (bX9_falls_2 cal) :=
  sn_iload_n dX9_falls_47 rfl <| sn_ret dX9_falls_48 ab_ri_int
set_option maxRecDepth 100000 in
theorem sX9_falls_3 {G : ab_G} {xs : List Int32} {d : Nat} {cal : ab_F} (hcs : ab_CS G (ab_Z G xs) ab_Mf cal d) : ab_Sd G (ab_Z G xs) (d + 1) (ab_mY mX9_falls pX9_falls) 49 (bX9_falls_3 cal) :=
  sn_iload dX9_falls_49 <| sn_istore_n dX9_falls_51 rfl (by decide) <| sn_iinc dX9_falls_52 rfl (by decide) <| sn_iinc dX9_falls_55 rfl (by decide) <| sn_goto (tg := 7) dX9_falls_58 rfl rfl
set_option maxRecDepth 100000 in
theorem sX9_falls_4 {G : ab_G} {xs : List Int32} {d : Nat} {cal : ab_F} (hcs : ab_CS G (ab_Z G xs) ab_Mf cal d) : ab_Sd G (ab_Z G xs) (d + 1) (ab_mY mX9_falls pX9_falls) 61 (bX9_falls_4 cal) :=
  sn_iload_n dX9_falls_61 rfl <| sn_ret dX9_falls_62 ab_ri_int
theorem sX9_falls {G : ab_G} {xs : List Int32} {d : Nat} {cal : ab_F} (hcs : ab_CS G (ab_Z G xs) ab_Mf cal d) : ab_BS G (ab_Z G xs) (d + 1) (ab_mY mX9_falls pX9_falls) pX9_falls (bX9_falls cal) := ⟨sX9_falls_0 hcs, sX9_falls_1 hcs, sX9_falls_2 hcs, sX9_falls_3 hcs, sX9_falls_4 hcs, trivial⟩
theorem dgX9_knocked_0 : decode cX9_knocked 0 = .ok (.iload_n 1, 1) ∧ decode cX9_knocked 1 = .ok (.invokestatic 129, 3) ∧ decode cX9_knocked 4 = .ok (.ifCond .eq 11, 3) ∧ decode cX9_knocked 7 = .ok (.aload_n 0, 1) ∧ decode cX9_knocked 8 = .ok (.iload_n 1, 1) ∧ decode cX9_knocked 9 = .ok (.invokevirtual 187, 3) ∧ decode cX9_knocked 12 = .ok (.goto 5, 3) ∧ decode cX9_knocked 15 = .ok (.ldc 90, 2) ∧ decode cX9_knocked 17 = .ok (.ireturn, 1) := by decide +kernel
theorem dX9_knocked_0 : decode cX9_knocked 0 = .ok (.iload_n 1, 1) := dgX9_knocked_0.1
theorem dX9_knocked_1 : decode cX9_knocked 1 = .ok (.invokestatic 129, 3) := dgX9_knocked_0.2.1
theorem dX9_knocked_4 : decode cX9_knocked 4 = .ok (.ifCond .eq 11, 3) := dgX9_knocked_0.2.2.1
theorem dX9_knocked_7 : decode cX9_knocked 7 = .ok (.aload_n 0, 1) := dgX9_knocked_0.2.2.2.1
theorem dX9_knocked_8 : decode cX9_knocked 8 = .ok (.iload_n 1, 1) := dgX9_knocked_0.2.2.2.2.1
theorem dX9_knocked_9 : decode cX9_knocked 9 = .ok (.invokevirtual 187, 3) := dgX9_knocked_0.2.2.2.2.2.1
theorem dX9_knocked_12 : decode cX9_knocked 12 = .ok (.goto 5, 3) := dgX9_knocked_0.2.2.2.2.2.2.1
theorem dX9_knocked_15 : decode cX9_knocked 15 = .ok (.ldc 90, 2) := dgX9_knocked_0.2.2.2.2.2.2.2.1
theorem dX9_knocked_17 : decode cX9_knocked 17 = .ok (.ireturn, 1) := dgX9_knocked_0.2.2.2.2.2.2.2.2
abbrev pX9_knocked : List Nat := [0, 15, 17]
def bX9_knocked_0 (cal : ab_F) : ab_K := o_iload 1 <| o_callS cal 134 1 <| o_if (fun x => decide (x = 0)) 1 <| o_aload 0 <| o_iload 1 <| o_callV cal 173 1 8 <| o_goto 2
def bX9_knocked_1 (cal : ab_F) : ab_K := o_push (.int (-1000000001)) <| o_goto 2
def bX9_knocked_2 (cal : ab_F) : ab_K := o_ret (some .int)
def bX9_knocked (cal : ab_F) : List ab_K := [bX9_knocked_0 cal, bX9_knocked_1 cal, bX9_knocked_2 cal]
set_option maxRecDepth 100000 in
theorem sX9_knocked_0 {G : ab_G} {xs : List Int32} {d : Nat} {cal : ab_F} (hcs : ab_CS G (ab_Z G xs) ab_Mf cal d) : ab_Sd G (ab_Z G xs) (d + 1) (ab_mY mX9_knocked pX9_knocked) 0 (bX9_knocked_0 cal) :=
  sn_iload_n dX9_knocked_0 rfl <| sq_callS mt_134 hcs dX9_knocked_1 w_1139 w_1140 w_63 w_1141 hy_134 hm_134 <| sn_if_eq (tg := 15) dX9_knocked_4 rfl rfl <| sn_aload_n dX9_knocked_7 rfl <| sn_iload_n dX9_knocked_8 rfl <| sq_callV mt_173 hcs dX9_knocked_9 rfl w_1292 w_1294 w_38 w_63 w_1295 hy_173 hm_173 <| sn_goto (tg := 17) dX9_knocked_12 rfl rfl
set_option maxRecDepth 100000 in
theorem sX9_knocked_1 {G : ab_G} {xs : List Int32} {d : Nat} {cal : ab_F} (hcs : ab_CS G (ab_Z G xs) ab_Mf cal d) : ab_Sd G (ab_Z G xs) (d + 1) (ab_mY mX9_knocked pX9_knocked) 15 (bX9_knocked_1 cal) :=
  sn_ldc dX9_knocked_15 w_1109 <| sn_next rfl
set_option maxRecDepth 100000 in
theorem sX9_knocked_2 {G : ab_G} {xs : List Int32} {d : Nat} {cal : ab_F} (hcs : ab_CS G (ab_Z G xs) ab_Mf cal d) : ab_Sd G (ab_Z G xs) (d + 1) (ab_mY mX9_knocked pX9_knocked) 17 (bX9_knocked_2 cal) :=
  sn_ret dX9_knocked_17 ab_ri_int
theorem sX9_knocked {G : ab_G} {xs : List Int32} {d : Nat} {cal : ab_F} (hcs : ab_CS G (ab_Z G xs) ab_Mf cal d) : ab_BS G (ab_Z G xs) (d + 1) (ab_mY mX9_knocked pX9_knocked) pX9_knocked (bX9_knocked cal) := ⟨sX9_knocked_0 hcs, sX9_knocked_1 hcs, sX9_knocked_2 hcs, trivial⟩
theorem dgX9_push_0 : decode cX9_push 0 = .ok (.iload_n 1, 1) ∧ decode cX9_push 1 = .ok (.iconst 0, 1) ∧ decode cX9_push 2 = .ok (.iconst 1, 1) ∧ decode cX9_push 3 = .ok (.invokestatic 86, 3) ∧ decode cX9_push 6 = .ok (.ifCond .ne 6, 3) ∧ decode cX9_push 9 = .ok (.ldc 90, 2) ∧ decode cX9_push 11 = .ok (.ireturn, 1) ∧ decode cX9_push 12 = .ok (.iconst 0, 1) ∧ decode cX9_push 13 = .ok (.istore_n 2, 1) ∧ decode cX9_push 14 = .ok (.aload_n 0, 1) ∧ decode cX9_push 15 = .ok (.iconst 0, 1) ∧ decode cX9_push 16 = .ok (.invokevirtual 187, 3) ∧ decode cX9_push 19 = .ok (.istore_n 3, 1) ∧ decode cX9_push 20 = .ok (.iconst 1, 1) ∧ decode cX9_push 21 = .ok (.istore 4, 2) ∧ decode cX9_push 23 = .ok (.iload 4, 2) := by decide +kernel
theorem dX9_push_0 : decode cX9_push 0 = .ok (.iload_n 1, 1) := dgX9_push_0.1
theorem dX9_push_1 : decode cX9_push 1 = .ok (.iconst 0, 1) := dgX9_push_0.2.1
theorem dX9_push_2 : decode cX9_push 2 = .ok (.iconst 1, 1) := dgX9_push_0.2.2.1
theorem dX9_push_3 : decode cX9_push 3 = .ok (.invokestatic 86, 3) := dgX9_push_0.2.2.2.1
theorem dX9_push_6 : decode cX9_push 6 = .ok (.ifCond .ne 6, 3) := dgX9_push_0.2.2.2.2.1
theorem dX9_push_9 : decode cX9_push 9 = .ok (.ldc 90, 2) := dgX9_push_0.2.2.2.2.2.1
theorem dX9_push_11 : decode cX9_push 11 = .ok (.ireturn, 1) := dgX9_push_0.2.2.2.2.2.2.1
theorem dX9_push_12 : decode cX9_push 12 = .ok (.iconst 0, 1) := dgX9_push_0.2.2.2.2.2.2.2.1
theorem dX9_push_13 : decode cX9_push 13 = .ok (.istore_n 2, 1) := dgX9_push_0.2.2.2.2.2.2.2.2.1
theorem dX9_push_14 : decode cX9_push 14 = .ok (.aload_n 0, 1) := dgX9_push_0.2.2.2.2.2.2.2.2.2.1
theorem dX9_push_15 : decode cX9_push 15 = .ok (.iconst 0, 1) := dgX9_push_0.2.2.2.2.2.2.2.2.2.2.1
theorem dX9_push_16 : decode cX9_push 16 = .ok (.invokevirtual 187, 3) := dgX9_push_0.2.2.2.2.2.2.2.2.2.2.2.1
theorem dX9_push_19 : decode cX9_push 19 = .ok (.istore_n 3, 1) := dgX9_push_0.2.2.2.2.2.2.2.2.2.2.2.2.1
theorem dX9_push_20 : decode cX9_push 20 = .ok (.iconst 1, 1) := dgX9_push_0.2.2.2.2.2.2.2.2.2.2.2.2.2.1
theorem dX9_push_21 : decode cX9_push 21 = .ok (.istore 4, 2) := dgX9_push_0.2.2.2.2.2.2.2.2.2.2.2.2.2.2.1
theorem dX9_push_23 : decode cX9_push 23 = .ok (.iload 4, 2) := dgX9_push_0.2.2.2.2.2.2.2.2.2.2.2.2.2.2.2
theorem dgX9_push_1 : decode cX9_push 25 = .ok (.bipush 12, 2) ∧ decode cX9_push 27 = .ok (.if_icmp .ge 43, 3) ∧ decode cX9_push 30 = .ok (.aload_n 0, 1) ∧ decode cX9_push 31 = .ok (.iload 4, 2) ∧ decode cX9_push 33 = .ok (.invokevirtual 187, 3) ∧ decode cX9_push 36 = .ok (.istore 5, 2) ∧ decode cX9_push 38 = .ok (.iload 5, 2) ∧ decode cX9_push 40 = .ok (.iload_n 3, 1) ∧ decode cX9_push 41 = .ok (.if_icmp .le 8, 3) ∧ decode cX9_push 44 = .ok (.iload 4, 2) ∧ decode cX9_push 46 = .ok (.goto 4, 3) ∧ decode cX9_push 49 = .ok (.iload_n 2, 1) ∧ decode cX9_push 50 = .ok (.istore_n 2, 1) ∧ decode cX9_push 51 = .ok (.iload 5, 2) ∧ decode cX9_push 53 = .ok (.iload_n 3, 1) ∧ decode cX9_push 54 = .ok (.if_icmp .le 8, 3) := by decide +kernel
theorem dX9_push_25 : decode cX9_push 25 = .ok (.bipush 12, 2) := dgX9_push_1.1
theorem dX9_push_27 : decode cX9_push 27 = .ok (.if_icmp .ge 43, 3) := dgX9_push_1.2.1
theorem dX9_push_30 : decode cX9_push 30 = .ok (.aload_n 0, 1) := dgX9_push_1.2.2.1
theorem dX9_push_31 : decode cX9_push 31 = .ok (.iload 4, 2) := dgX9_push_1.2.2.2.1
theorem dX9_push_33 : decode cX9_push 33 = .ok (.invokevirtual 187, 3) := dgX9_push_1.2.2.2.2.1
theorem dX9_push_36 : decode cX9_push 36 = .ok (.istore 5, 2) := dgX9_push_1.2.2.2.2.2.1
theorem dX9_push_38 : decode cX9_push 38 = .ok (.iload 5, 2) := dgX9_push_1.2.2.2.2.2.2.1
theorem dX9_push_40 : decode cX9_push 40 = .ok (.iload_n 3, 1) := dgX9_push_1.2.2.2.2.2.2.2.1
theorem dX9_push_41 : decode cX9_push 41 = .ok (.if_icmp .le 8, 3) := dgX9_push_1.2.2.2.2.2.2.2.2.1
theorem dX9_push_44 : decode cX9_push 44 = .ok (.iload 4, 2) := dgX9_push_1.2.2.2.2.2.2.2.2.2.1
theorem dX9_push_46 : decode cX9_push 46 = .ok (.goto 4, 3) := dgX9_push_1.2.2.2.2.2.2.2.2.2.2.1
theorem dX9_push_49 : decode cX9_push 49 = .ok (.iload_n 2, 1) := dgX9_push_1.2.2.2.2.2.2.2.2.2.2.2.1
theorem dX9_push_50 : decode cX9_push 50 = .ok (.istore_n 2, 1) := dgX9_push_1.2.2.2.2.2.2.2.2.2.2.2.2.1
theorem dX9_push_51 : decode cX9_push 51 = .ok (.iload 5, 2) := dgX9_push_1.2.2.2.2.2.2.2.2.2.2.2.2.2.1
theorem dX9_push_53 : decode cX9_push 53 = .ok (.iload_n 3, 1) := dgX9_push_1.2.2.2.2.2.2.2.2.2.2.2.2.2.2.1
theorem dX9_push_54 : decode cX9_push 54 = .ok (.if_icmp .le 8, 3) := dgX9_push_1.2.2.2.2.2.2.2.2.2.2.2.2.2.2.2
theorem dgX9_push_2 : decode cX9_push 57 = .ok (.iload 5, 2) ∧ decode cX9_push 59 = .ok (.goto 4, 3) ∧ decode cX9_push 62 = .ok (.iload_n 3, 1) ∧ decode cX9_push 63 = .ok (.istore_n 3, 1) ∧ decode cX9_push 64 = .ok (.iinc 4 1, 3) ∧ decode cX9_push 67 = .ok (.goto (-44), 3) ∧ decode cX9_push 70 = .ok (.iload_n 1, 1) ∧ decode cX9_push 71 = .ok (.ifCond .ne 7, 3) ∧ decode cX9_push 74 = .ok (.iload_n 2, 1) ∧ decode cX9_push 75 = .ok (.goto 4, 3) ∧ decode cX9_push 78 = .ok (.iload_n 3, 1) ∧ decode cX9_push 79 = .ok (.ireturn, 1) := by decide +kernel
theorem dX9_push_57 : decode cX9_push 57 = .ok (.iload 5, 2) := dgX9_push_2.1
theorem dX9_push_59 : decode cX9_push 59 = .ok (.goto 4, 3) := dgX9_push_2.2.1
theorem dX9_push_62 : decode cX9_push 62 = .ok (.iload_n 3, 1) := dgX9_push_2.2.2.1
theorem dX9_push_63 : decode cX9_push 63 = .ok (.istore_n 3, 1) := dgX9_push_2.2.2.2.1
theorem dX9_push_64 : decode cX9_push 64 = .ok (.iinc 4 1, 3) := dgX9_push_2.2.2.2.2.1
theorem dX9_push_67 : decode cX9_push 67 = .ok (.goto (-44), 3) := dgX9_push_2.2.2.2.2.2.1
theorem dX9_push_70 : decode cX9_push 70 = .ok (.iload_n 1, 1) := dgX9_push_2.2.2.2.2.2.2.1
theorem dX9_push_71 : decode cX9_push 71 = .ok (.ifCond .ne 7, 3) := dgX9_push_2.2.2.2.2.2.2.2.1
theorem dX9_push_74 : decode cX9_push 74 = .ok (.iload_n 2, 1) := dgX9_push_2.2.2.2.2.2.2.2.2.1
theorem dX9_push_75 : decode cX9_push 75 = .ok (.goto 4, 3) := dgX9_push_2.2.2.2.2.2.2.2.2.2.1
theorem dX9_push_78 : decode cX9_push 78 = .ok (.iload_n 3, 1) := dgX9_push_2.2.2.2.2.2.2.2.2.2.2.1
theorem dX9_push_79 : decode cX9_push 79 = .ok (.ireturn, 1) := dgX9_push_2.2.2.2.2.2.2.2.2.2.2.2
abbrev pX9_push : List Nat := [0, 12, 23, 49, 50, 62, 63, 70, 78, 79]
def bX9_push_0 (cal : ab_F) : ab_K := o_iload 1 <| o_push (.int 0) <| o_push (.int 1) <| o_callS cal 128 3 <| o_if (fun x => decide (¬ x = 0)) 1 <| o_push (.int (-1000000001)) <| o_ret (some .int)
def bX9_push_1 (cal : ab_F) : ab_K := o_push (.int 0) <| o_istore 2 <| o_aload 0 <| o_push (.int 0) <| o_callV cal 173 1 8 <| o_istore 3 <| o_push (.int 1) <| o_istore 4 <| o_goto 2
def bX9_push_2 (cal : ab_F) : ab_K := o_iload 4 <| o_push (.int 12) <| o_cmp (fun x y => decide (y ≤ x)) 7 <| o_aload 0 <| o_iload 4 <| o_callV cal 173 1 8 <| o_istore 5 <| o_iload 5 <| o_iload 3 <| o_cmp (fun x y => decide (x ≤ y)) 3 <| o_iload 4 <| o_goto 4
def bX9_push_3 (cal : ab_F) : ab_K := o_iload 2 <| o_goto 4
def bX9_push_4 (cal : ab_F) : ab_K := o_istore 2 <| o_iload 5 <| o_iload 3 <| o_cmp (fun x y => decide (x ≤ y)) 5 <| o_iload 5 <| o_goto 6
def bX9_push_5 (cal : ab_F) : ab_K := o_iload 3 <| o_goto 6
def bX9_push_6 (cal : ab_F) : ab_K := o_istore 3 <| o_iinc 4 1 <| o_goto 2
def bX9_push_7 (cal : ab_F) : ab_K := o_iload 1 <| o_if (fun x => decide (¬ x = 0)) 8 <| o_iload 2 <| o_goto 9
def bX9_push_8 (cal : ab_F) : ab_K := o_iload 3 <| o_goto 9
def bX9_push_9 (cal : ab_F) : ab_K := o_ret (some .int)
def bX9_push (cal : ab_F) : List ab_K := [bX9_push_0 cal, bX9_push_1 cal, bX9_push_2 cal, bX9_push_3 cal, bX9_push_4 cal, bX9_push_5 cal, bX9_push_6 cal, bX9_push_7 cal, bX9_push_8 cal, bX9_push_9 cal]
set_option maxRecDepth 100000 in
theorem sX9_push_0 {G : ab_G} {xs : List Int32} {d : Nat} {cal : ab_F} (hcs : ab_CS G (ab_Z G xs) ab_Mf cal d) : ab_Sd G (ab_Z G xs) (d + 1) (ab_mY mX9_push pX9_push) 0 (bX9_push_0 cal) :=
  sn_iload_n dX9_push_0 rfl <| sn_iconst dX9_push_1 rfl <| sn_iconst dX9_push_2 rfl <| sq_callS mt_128 hcs dX9_push_3 w_1106 w_1107 w_63 w_1108 hy_128 hm_128 <| sn_if_ne (tg := 12) dX9_push_6 rfl rfl <| sn_ldc dX9_push_9 w_1109 <| sn_ret dX9_push_11 ab_ri_int
set_option maxRecDepth 100000 in
theorem sX9_push_1 {G : ab_G} {xs : List Int32} {d : Nat} {cal : ab_F} (hcs : ab_CS G (ab_Z G xs) ab_Mf cal d) : ab_Sd G (ab_Z G xs) (d + 1) (ab_mY mX9_push pX9_push) 12 (bX9_push_1 cal) :=
  sn_iconst dX9_push_12 rfl <| sn_istore_n dX9_push_13 rfl (by decide) <| sn_aload_n dX9_push_14 rfl <| sn_iconst dX9_push_15 rfl <| sq_callV mt_173 hcs dX9_push_16 rfl w_1292 w_1294 w_38 w_63 w_1295 hy_173 hm_173 <| sn_istore_n dX9_push_19 rfl (by decide) <| sn_iconst dX9_push_20 rfl <| sn_istore dX9_push_21 (by decide) <| sn_next rfl
set_option maxRecDepth 100000 in
theorem sX9_push_2 {G : ab_G} {xs : List Int32} {d : Nat} {cal : ab_F} (hcs : ab_CS G (ab_Z G xs) ab_Mf cal d) : ab_Sd G (ab_Z G xs) (d + 1) (ab_mY mX9_push pX9_push) 23 (bX9_push_2 cal) :=
  sn_iload dX9_push_23 <| sn_bipush dX9_push_25 rfl <| sn_cmp_ge (tg := 70) dX9_push_27 rfl rfl <| sn_aload_n dX9_push_30 rfl <| sn_iload dX9_push_31 <| sq_callV mt_173 hcs dX9_push_33 rfl w_1292 w_1294 w_38 w_63 w_1295 hy_173 hm_173 <| sn_istore dX9_push_36 (by decide) <| sn_iload dX9_push_38 <| sn_iload_n dX9_push_40 rfl <| sn_cmp_le (tg := 49) dX9_push_41 rfl rfl <| sn_iload dX9_push_44 <| sn_goto (tg := 50) dX9_push_46 rfl rfl
set_option maxRecDepth 100000 in
theorem sX9_push_3 {G : ab_G} {xs : List Int32} {d : Nat} {cal : ab_F} (hcs : ab_CS G (ab_Z G xs) ab_Mf cal d) : ab_Sd G (ab_Z G xs) (d + 1) (ab_mY mX9_push pX9_push) 49 (bX9_push_3 cal) :=
  sn_iload_n dX9_push_49 rfl <| sn_next rfl
set_option maxRecDepth 100000 in
theorem sX9_push_4 {G : ab_G} {xs : List Int32} {d : Nat} {cal : ab_F} (hcs : ab_CS G (ab_Z G xs) ab_Mf cal d) : ab_Sd G (ab_Z G xs) (d + 1) (ab_mY mX9_push pX9_push) 50 (bX9_push_4 cal) :=
  sn_istore_n dX9_push_50 rfl (by decide) <| sn_iload dX9_push_51 <| sn_iload_n dX9_push_53 rfl <| sn_cmp_le (tg := 62) dX9_push_54 rfl rfl <| sn_iload dX9_push_57 <| sn_goto (tg := 63) dX9_push_59 rfl rfl
set_option maxRecDepth 100000 in
theorem sX9_push_5 {G : ab_G} {xs : List Int32} {d : Nat} {cal : ab_F} (hcs : ab_CS G (ab_Z G xs) ab_Mf cal d) : ab_Sd G (ab_Z G xs) (d + 1) (ab_mY mX9_push pX9_push) 62 (bX9_push_5 cal) :=
  sn_iload_n dX9_push_62 rfl <| sn_next rfl
set_option maxRecDepth 100000 in
theorem sX9_push_6 {G : ab_G} {xs : List Int32} {d : Nat} {cal : ab_F} (hcs : ab_CS G (ab_Z G xs) ab_Mf cal d) : ab_Sd G (ab_Z G xs) (d + 1) (ab_mY mX9_push pX9_push) 63 (bX9_push_6 cal) :=
  sn_istore_n dX9_push_63 rfl (by decide) <| sn_iinc dX9_push_64 rfl (by decide) <| sn_goto (tg := 23) dX9_push_67 rfl rfl
set_option maxRecDepth 100000 in
theorem sX9_push_7 {G : ab_G} {xs : List Int32} {d : Nat} {cal : ab_F} (hcs : ab_CS G (ab_Z G xs) ab_Mf cal d) : ab_Sd G (ab_Z G xs) (d + 1) (ab_mY mX9_push pX9_push) 70 (bX9_push_7 cal) :=
  sn_iload_n dX9_push_70 rfl <| sn_if_ne (tg := 78) dX9_push_71 rfl rfl <| sn_iload_n dX9_push_74 rfl <| sn_goto (tg := 79) dX9_push_75 rfl rfl
set_option maxRecDepth 100000 in
theorem sX9_push_8 {G : ab_G} {xs : List Int32} {d : Nat} {cal : ab_F} (hcs : ab_CS G (ab_Z G xs) ab_Mf cal d) : ab_Sd G (ab_Z G xs) (d + 1) (ab_mY mX9_push pX9_push) 78 (bX9_push_8 cal) :=
  sn_iload_n dX9_push_78 rfl <| sn_next rfl
set_option maxRecDepth 100000 in
theorem sX9_push_9 {G : ab_G} {xs : List Int32} {d : Nat} {cal : ab_F} (hcs : ab_CS G (ab_Z G xs) ab_Mf cal d) : ab_Sd G (ab_Z G xs) (d + 1) (ab_mY mX9_push pX9_push) 79 (bX9_push_9 cal) :=
  sn_ret dX9_push_79 ab_ri_int
theorem sX9_push {G : ab_G} {xs : List Int32} {d : Nat} {cal : ab_F} (hcs : ab_CS G (ab_Z G xs) ab_Mf cal d) : ab_BS G (ab_Z G xs) (d + 1) (ab_mY mX9_push pX9_push) pX9_push (bX9_push cal) := ⟨sX9_push_0 hcs, sX9_push_1 hcs, sX9_push_2 hcs, sX9_push_3 hcs, sX9_push_4 hcs, sX9_push_5 hcs, sX9_push_6 hcs, sX9_push_7 hcs, sX9_push_8 hcs, sX9_push_9 hcs, trivial⟩
theorem dgX9_thinks_0 : decode cX9_thinks 0 = .ok (.iconst 0, 1) ∧ decode cX9_thinks 1 = .ok (.istore_n 1, 1) ∧ decode cX9_thinks 2 = .ok (.iload_n 1, 1) ∧ decode cX9_thinks 3 = .ok (.bipush 89, 2) ∧ decode cX9_thinks 5 = .ok (.if_icmp .ge 21, 3) ∧ decode cX9_thinks 8 = .ok (.aload_n 0, 1) ∧ decode cX9_thinks 9 = .ok (.getfield 29, 3) ∧ decode cX9_thinks 12 = .ok (.iload_n 1, 1) ∧ decode cX9_thinks 13 = .ok (.aload_n 0, 1) ∧ decode cX9_thinks 14 = .ok (.getfield 9, 3) ∧ decode cX9_thinks 17 = .ok (.iload_n 1, 1) ∧ decode cX9_thinks 18 = .ok (.iaload, 1) ∧ decode cX9_thinks 19 = .ok (.iastore, 1) ∧ decode cX9_thinks 20 = .ok (.iinc 1 1, 3) ∧ decode cX9_thinks 23 = .ok (.goto (-21), 3) ∧ decode cX9_thinks 26 = .ok (.return_, 1) := by decide +kernel
theorem dX9_thinks_0 : decode cX9_thinks 0 = .ok (.iconst 0, 1) := dgX9_thinks_0.1
theorem dX9_thinks_1 : decode cX9_thinks 1 = .ok (.istore_n 1, 1) := dgX9_thinks_0.2.1
theorem dX9_thinks_2 : decode cX9_thinks 2 = .ok (.iload_n 1, 1) := dgX9_thinks_0.2.2.1
theorem dX9_thinks_3 : decode cX9_thinks 3 = .ok (.bipush 89, 2) := dgX9_thinks_0.2.2.2.1
theorem dX9_thinks_5 : decode cX9_thinks 5 = .ok (.if_icmp .ge 21, 3) := dgX9_thinks_0.2.2.2.2.1
theorem dX9_thinks_8 : decode cX9_thinks 8 = .ok (.aload_n 0, 1) := dgX9_thinks_0.2.2.2.2.2.1
theorem dX9_thinks_9 : decode cX9_thinks 9 = .ok (.getfield 29, 3) := dgX9_thinks_0.2.2.2.2.2.2.1
theorem dX9_thinks_12 : decode cX9_thinks 12 = .ok (.iload_n 1, 1) := dgX9_thinks_0.2.2.2.2.2.2.2.1
theorem dX9_thinks_13 : decode cX9_thinks 13 = .ok (.aload_n 0, 1) := dgX9_thinks_0.2.2.2.2.2.2.2.2.1
theorem dX9_thinks_14 : decode cX9_thinks 14 = .ok (.getfield 9, 3) := dgX9_thinks_0.2.2.2.2.2.2.2.2.2.1
theorem dX9_thinks_17 : decode cX9_thinks 17 = .ok (.iload_n 1, 1) := dgX9_thinks_0.2.2.2.2.2.2.2.2.2.2.1
theorem dX9_thinks_18 : decode cX9_thinks 18 = .ok (.iaload, 1) := dgX9_thinks_0.2.2.2.2.2.2.2.2.2.2.2.1
theorem dX9_thinks_19 : decode cX9_thinks 19 = .ok (.iastore, 1) := dgX9_thinks_0.2.2.2.2.2.2.2.2.2.2.2.2.1
theorem dX9_thinks_20 : decode cX9_thinks 20 = .ok (.iinc 1 1, 3) := dgX9_thinks_0.2.2.2.2.2.2.2.2.2.2.2.2.2.1
theorem dX9_thinks_23 : decode cX9_thinks 23 = .ok (.goto (-21), 3) := dgX9_thinks_0.2.2.2.2.2.2.2.2.2.2.2.2.2.2.1
theorem dX9_thinks_26 : decode cX9_thinks 26 = .ok (.return_, 1) := dgX9_thinks_0.2.2.2.2.2.2.2.2.2.2.2.2.2.2.2
abbrev pX9_thinks : List Nat := [0, 2, 26]
def bX9_thinks_0 (cal : ab_F) : ab_K := o_push (.int 0) <| o_istore 1 <| o_goto 1
def bX9_thinks_1 (cal : ab_F) : ab_K := o_iload 1 <| o_push (.int 89) <| o_cmp (fun x y => decide (y ≤ x)) 2 <| o_aload 0 <| o_getf 8 7 <| o_iload 1 <| o_aload 0 <| o_getf 8 0 <| o_iload 1 <| o_iald 0 <| o_iast 0 (fun x => x) <| o_iinc 1 1 <| o_goto 1
def bX9_thinks_2 (cal : ab_F) : ab_K := o_ret none
def bX9_thinks (cal : ab_F) : List ab_K := [bX9_thinks_0 cal, bX9_thinks_1 cal, bX9_thinks_2 cal]
set_option maxRecDepth 100000 in
theorem sX9_thinks_0 {G : ab_G} {xs : List Int32} {d : Nat} {cal : ab_F} (hcs : ab_CS G (ab_Z G xs) ab_Mf cal d) : ab_Sd G (ab_Z G xs) (d + 1) (ab_mY mX9_thinks pX9_thinks) 0 (bX9_thinks_0 cal) :=
  sn_iconst dX9_thinks_0 rfl <| sn_istore_n dX9_thinks_1 rfl (by decide) <| sn_next rfl
set_option maxRecDepth 100000 in
theorem sX9_thinks_1 {G : ab_G} {xs : List Int32} {d : Nat} {cal : ab_F} (hcs : ab_CS G (ab_Z G xs) ab_Mf cal d) : ab_Sd G (ab_Z G xs) (d + 1) (ab_mY mX9_thinks pX9_thinks) 2 (bX9_thinks_1 cal) :=
  sn_iload_n dX9_thinks_2 rfl <| sn_bipush dX9_thinks_3 rfl <| sn_cmp_ge (tg := 26) dX9_thinks_5 rfl rfl <| sn_aload_n dX9_thinks_8 rfl <| sn_getf dX9_thinks_9 rfl hinX9 (by decide) w_998 <| sn_iload_n dX9_thinks_12 rfl <| sn_aload_n dX9_thinks_13 rfl <| sn_getf dX9_thinks_14 rfl hinX9 (by decide) w_991 <| sn_iload_n dX9_thinks_17 rfl <| sn_iald dX9_thinks_18 rfl <| sn_iast dX9_thinks_19 rfl rfl <| sn_iinc dX9_thinks_20 rfl (by decide) <| sn_goto (tg := 2) dX9_thinks_23 rfl rfl
set_option maxRecDepth 100000 in
theorem sX9_thinks_2 {G : ab_G} {xs : List Int32} {d : Nat} {cal : ab_F} (hcs : ab_CS G (ab_Z G xs) ab_Mf cal d) : ab_Sd G (ab_Z G xs) (d + 1) (ab_mY mX9_thinks pX9_thinks) 26 (bX9_thinks_2 cal) :=
  sn_ret dX9_thinks_26 ab_ri_void
theorem sX9_thinks {G : ab_G} {xs : List Int32} {d : Nat} {cal : ab_F} (hcs : ab_CS G (ab_Z G xs) ab_Mf cal d) : ab_BS G (ab_Z G xs) (d + 1) (ab_mY mX9_thinks pX9_thinks) pX9_thinks (bX9_thinks cal) := ⟨sX9_thinks_0 hcs, sX9_thinks_1 hcs, sX9_thinks_2 hcs, trivial⟩
theorem dgX9_putsBack_0 : decode cX9_putsBack 0 = .ok (.iconst 0, 1) ∧ decode cX9_putsBack 1 = .ok (.istore_n 1, 1) ∧ decode cX9_putsBack 2 = .ok (.iload_n 1, 1) ∧ decode cX9_putsBack 3 = .ok (.bipush 89, 2) ∧ decode cX9_putsBack 5 = .ok (.if_icmp .ge 21, 3) ∧ decode cX9_putsBack 8 = .ok (.aload_n 0, 1) ∧ decode cX9_putsBack 9 = .ok (.getfield 9, 3) ∧ decode cX9_putsBack 12 = .ok (.iload_n 1, 1) ∧ decode cX9_putsBack 13 = .ok (.aload_n 0, 1) ∧ decode cX9_putsBack 14 = .ok (.getfield 29, 3) ∧ decode cX9_putsBack 17 = .ok (.iload_n 1, 1) ∧ decode cX9_putsBack 18 = .ok (.iaload, 1) ∧ decode cX9_putsBack 19 = .ok (.iastore, 1) ∧ decode cX9_putsBack 20 = .ok (.iinc 1 1, 3) ∧ decode cX9_putsBack 23 = .ok (.goto (-21), 3) ∧ decode cX9_putsBack 26 = .ok (.aload_n 0, 1) := by decide +kernel
theorem dX9_putsBack_0 : decode cX9_putsBack 0 = .ok (.iconst 0, 1) := dgX9_putsBack_0.1
theorem dX9_putsBack_1 : decode cX9_putsBack 1 = .ok (.istore_n 1, 1) := dgX9_putsBack_0.2.1
theorem dX9_putsBack_2 : decode cX9_putsBack 2 = .ok (.iload_n 1, 1) := dgX9_putsBack_0.2.2.1
theorem dX9_putsBack_3 : decode cX9_putsBack 3 = .ok (.bipush 89, 2) := dgX9_putsBack_0.2.2.2.1
theorem dX9_putsBack_5 : decode cX9_putsBack 5 = .ok (.if_icmp .ge 21, 3) := dgX9_putsBack_0.2.2.2.2.1
theorem dX9_putsBack_8 : decode cX9_putsBack 8 = .ok (.aload_n 0, 1) := dgX9_putsBack_0.2.2.2.2.2.1
theorem dX9_putsBack_9 : decode cX9_putsBack 9 = .ok (.getfield 9, 3) := dgX9_putsBack_0.2.2.2.2.2.2.1
theorem dX9_putsBack_12 : decode cX9_putsBack 12 = .ok (.iload_n 1, 1) := dgX9_putsBack_0.2.2.2.2.2.2.2.1
theorem dX9_putsBack_13 : decode cX9_putsBack 13 = .ok (.aload_n 0, 1) := dgX9_putsBack_0.2.2.2.2.2.2.2.2.1
theorem dX9_putsBack_14 : decode cX9_putsBack 14 = .ok (.getfield 29, 3) := dgX9_putsBack_0.2.2.2.2.2.2.2.2.2.1
theorem dX9_putsBack_17 : decode cX9_putsBack 17 = .ok (.iload_n 1, 1) := dgX9_putsBack_0.2.2.2.2.2.2.2.2.2.2.1
theorem dX9_putsBack_18 : decode cX9_putsBack 18 = .ok (.iaload, 1) := dgX9_putsBack_0.2.2.2.2.2.2.2.2.2.2.2.1
theorem dX9_putsBack_19 : decode cX9_putsBack 19 = .ok (.iastore, 1) := dgX9_putsBack_0.2.2.2.2.2.2.2.2.2.2.2.2.1
theorem dX9_putsBack_20 : decode cX9_putsBack 20 = .ok (.iinc 1 1, 3) := dgX9_putsBack_0.2.2.2.2.2.2.2.2.2.2.2.2.2.1
theorem dX9_putsBack_23 : decode cX9_putsBack 23 = .ok (.goto (-21), 3) := dgX9_putsBack_0.2.2.2.2.2.2.2.2.2.2.2.2.2.2.1
theorem dX9_putsBack_26 : decode cX9_putsBack 26 = .ok (.aload_n 0, 1) := dgX9_putsBack_0.2.2.2.2.2.2.2.2.2.2.2.2.2.2.2
theorem dgX9_putsBack_1 : decode cX9_putsBack 27 = .ok (.iconst (-1), 1) ∧ decode cX9_putsBack 28 = .ok (.putfield 19, 3) ∧ decode cX9_putsBack 31 = .ok (.return_, 1) := by decide +kernel
theorem dX9_putsBack_27 : decode cX9_putsBack 27 = .ok (.iconst (-1), 1) := dgX9_putsBack_1.1
theorem dX9_putsBack_28 : decode cX9_putsBack 28 = .ok (.putfield 19, 3) := dgX9_putsBack_1.2.1
theorem dX9_putsBack_31 : decode cX9_putsBack 31 = .ok (.return_, 1) := dgX9_putsBack_1.2.2
abbrev pX9_putsBack : List Nat := [0, 2, 26]
def bX9_putsBack_0 (cal : ab_F) : ab_K := o_push (.int 0) <| o_istore 1 <| o_goto 1
def bX9_putsBack_1 (cal : ab_F) : ab_K := o_iload 1 <| o_push (.int 89) <| o_cmp (fun x y => decide (y ≤ x)) 2 <| o_aload 0 <| o_getf 8 0 <| o_iload 1 <| o_aload 0 <| o_getf 8 7 <| o_iload 1 <| o_iald 0 <| o_iast 0 (fun x => x) <| o_iinc 1 1 <| o_goto 1
def bX9_putsBack_2 (cal : ab_F) : ab_K := o_aload 0 <| o_push (.int (-1)) <| o_putI 8 4 <| o_ret none
def bX9_putsBack (cal : ab_F) : List ab_K := [bX9_putsBack_0 cal, bX9_putsBack_1 cal, bX9_putsBack_2 cal]
set_option maxRecDepth 100000 in
theorem sX9_putsBack_0 {G : ab_G} {xs : List Int32} {d : Nat} {cal : ab_F} (hcs : ab_CS G (ab_Z G xs) ab_Mf cal d) : ab_Sd G (ab_Z G xs) (d + 1) (ab_mY mX9_putsBack pX9_putsBack) 0 (bX9_putsBack_0 cal) :=
  sn_iconst dX9_putsBack_0 rfl <| sn_istore_n dX9_putsBack_1 rfl (by decide) <| sn_next rfl
set_option maxRecDepth 100000 in
theorem sX9_putsBack_1 {G : ab_G} {xs : List Int32} {d : Nat} {cal : ab_F} (hcs : ab_CS G (ab_Z G xs) ab_Mf cal d) : ab_Sd G (ab_Z G xs) (d + 1) (ab_mY mX9_putsBack pX9_putsBack) 2 (bX9_putsBack_1 cal) :=
  sn_iload_n dX9_putsBack_2 rfl <| sn_bipush dX9_putsBack_3 rfl <| sn_cmp_ge (tg := 26) dX9_putsBack_5 rfl rfl <| sn_aload_n dX9_putsBack_8 rfl <| sn_getf dX9_putsBack_9 rfl hinX9 (by decide) w_991 <| sn_iload_n dX9_putsBack_12 rfl <| sn_aload_n dX9_putsBack_13 rfl <| sn_getf dX9_putsBack_14 rfl hinX9 (by decide) w_998 <| sn_iload_n dX9_putsBack_17 rfl <| sn_iald dX9_putsBack_18 rfl <| sn_iast dX9_putsBack_19 rfl rfl <| sn_iinc dX9_putsBack_20 rfl (by decide) <| sn_goto (tg := 2) dX9_putsBack_23 rfl rfl
set_option maxRecDepth 100000 in
theorem sX9_putsBack_2 {G : ab_G} {xs : List Int32} {d : Nat} {cal : ab_F} (hcs : ab_CS G (ab_Z G xs) ab_Mf cal d) : ab_Sd G (ab_Z G xs) (d + 1) (ab_mY mX9_putsBack pX9_putsBack) 26 (bX9_putsBack_2 cal) :=
  sn_aload_n dX9_putsBack_26 rfl <| sn_iconst dX9_putsBack_27 rfl <| sn_putI tyX9 tyX9_ok nmX9 dX9_putsBack_28 rfl hinX9 (by decide) w_995 (Or.inl rfl) (tyX9_ok 4 (by decide)) <| sn_ret dX9_putsBack_31 ab_ri_void
theorem sX9_putsBack {G : ab_G} {xs : List Int32} {d : Nat} {cal : ab_F} (hcs : ab_CS G (ab_Z G xs) ab_Mf cal d) : ab_BS G (ab_Z G xs) (d + 1) (ab_mY mX9_putsBack pX9_putsBack) pX9_putsBack (bX9_putsBack cal) := ⟨sX9_putsBack_0 hcs, sX9_putsBack_1 hcs, sX9_putsBack_2 hcs, trivial⟩
theorem dgX9_behind_0 : decode cX9_behind 0 = .ok (.iload_n 1, 1) ∧ decode cX9_behind 1 = .ok (.iconst 0, 1) ∧ decode cX9_behind 2 = .ok (.bipush 100, 2) ∧ decode cX9_behind 4 = .ok (.invokestatic 86, 3) ∧ decode cX9_behind 7 = .ok (.ifCond .eq 13, 3) ∧ decode cX9_behind 10 = .ok (.iload_n 2, 1) ∧ decode cX9_behind 11 = .ok (.iconst 0, 1) ∧ decode cX9_behind 12 = .ok (.bipush 14, 2) ∧ decode cX9_behind 14 = .ok (.invokestatic 86, 3) ∧ decode cX9_behind 17 = .ok (.ifCond .ne 6, 3) ∧ decode cX9_behind 20 = .ok (.ldc 90, 2) ∧ decode cX9_behind 22 = .ok (.ireturn, 1) ∧ decode cX9_behind 23 = .ok (.aload_n 0, 1) ∧ decode cX9_behind 24 = .ok (.invokevirtual 190, 3) ∧ decode cX9_behind 27 = .ok (.aload_n 0, 1) ∧ decode cX9_behind 28 = .ok (.iload_n 1, 1) := by decide +kernel
theorem dX9_behind_0 : decode cX9_behind 0 = .ok (.iload_n 1, 1) := dgX9_behind_0.1
theorem dX9_behind_1 : decode cX9_behind 1 = .ok (.iconst 0, 1) := dgX9_behind_0.2.1
theorem dX9_behind_2 : decode cX9_behind 2 = .ok (.bipush 100, 2) := dgX9_behind_0.2.2.1
theorem dX9_behind_4 : decode cX9_behind 4 = .ok (.invokestatic 86, 3) := dgX9_behind_0.2.2.2.1
theorem dX9_behind_7 : decode cX9_behind 7 = .ok (.ifCond .eq 13, 3) := dgX9_behind_0.2.2.2.2.1
theorem dX9_behind_10 : decode cX9_behind 10 = .ok (.iload_n 2, 1) := dgX9_behind_0.2.2.2.2.2.1
theorem dX9_behind_11 : decode cX9_behind 11 = .ok (.iconst 0, 1) := dgX9_behind_0.2.2.2.2.2.2.1
theorem dX9_behind_12 : decode cX9_behind 12 = .ok (.bipush 14, 2) := dgX9_behind_0.2.2.2.2.2.2.2.1
theorem dX9_behind_14 : decode cX9_behind 14 = .ok (.invokestatic 86, 3) := dgX9_behind_0.2.2.2.2.2.2.2.2.1
theorem dX9_behind_17 : decode cX9_behind 17 = .ok (.ifCond .ne 6, 3) := dgX9_behind_0.2.2.2.2.2.2.2.2.2.1
theorem dX9_behind_20 : decode cX9_behind 20 = .ok (.ldc 90, 2) := dgX9_behind_0.2.2.2.2.2.2.2.2.2.2.1
theorem dX9_behind_22 : decode cX9_behind 22 = .ok (.ireturn, 1) := dgX9_behind_0.2.2.2.2.2.2.2.2.2.2.2.1
theorem dX9_behind_23 : decode cX9_behind 23 = .ok (.aload_n 0, 1) := dgX9_behind_0.2.2.2.2.2.2.2.2.2.2.2.2.1
theorem dX9_behind_24 : decode cX9_behind 24 = .ok (.invokevirtual 190, 3) := dgX9_behind_0.2.2.2.2.2.2.2.2.2.2.2.2.2.1
theorem dX9_behind_27 : decode cX9_behind 27 = .ok (.aload_n 0, 1) := dgX9_behind_0.2.2.2.2.2.2.2.2.2.2.2.2.2.2.1
theorem dX9_behind_28 : decode cX9_behind 28 = .ok (.iload_n 1, 1) := dgX9_behind_0.2.2.2.2.2.2.2.2.2.2.2.2.2.2.2
theorem dgX9_behind_1 : decode cX9_behind 29 = .ok (.invokevirtual 162, 3) ∧ decode cX9_behind 32 = .ok (.iload_n 2, 1) ∧ decode cX9_behind 33 = .ok (.iconst 2, 1) ∧ decode cX9_behind 34 = .ok (.if_icmp .le 16, 3) ∧ decode cX9_behind 37 = .ok (.aload_n 0, 1) ∧ decode cX9_behind 38 = .ok (.iload_n 2, 1) ∧ decode cX9_behind 39 = .ok (.iconst 3, 1) ∧ decode cX9_behind 40 = .ok (.isub, 1) ∧ decode cX9_behind 41 = .ok (.invokevirtual 143, 3) ∧ decode cX9_behind 44 = .ok (.invokestatic 171, 3) ∧ decode cX9_behind 47 = .ok (.goto 8, 3) ∧ decode cX9_behind 50 = .ok (.aload_n 0, 1) ∧ decode cX9_behind 51 = .ok (.iload_n 2, 1) ∧ decode cX9_behind 52 = .ok (.invokevirtual 193, 3) ∧ decode cX9_behind 55 = .ok (.istore_n 3, 1) ∧ decode cX9_behind 56 = .ok (.aload_n 0, 1) := by decide +kernel
theorem dX9_behind_29 : decode cX9_behind 29 = .ok (.invokevirtual 162, 3) := dgX9_behind_1.1
theorem dX9_behind_32 : decode cX9_behind 32 = .ok (.iload_n 2, 1) := dgX9_behind_1.2.1
theorem dX9_behind_33 : decode cX9_behind 33 = .ok (.iconst 2, 1) := dgX9_behind_1.2.2.1
theorem dX9_behind_34 : decode cX9_behind 34 = .ok (.if_icmp .le 16, 3) := dgX9_behind_1.2.2.2.1
theorem dX9_behind_37 : decode cX9_behind 37 = .ok (.aload_n 0, 1) := dgX9_behind_1.2.2.2.2.1
theorem dX9_behind_38 : decode cX9_behind 38 = .ok (.iload_n 2, 1) := dgX9_behind_1.2.2.2.2.2.1
theorem dX9_behind_39 : decode cX9_behind 39 = .ok (.iconst 3, 1) := dgX9_behind_1.2.2.2.2.2.2.1
theorem dX9_behind_40 : decode cX9_behind 40 = .ok (.isub, 1) := dgX9_behind_1.2.2.2.2.2.2.2.1
theorem dX9_behind_41 : decode cX9_behind 41 = .ok (.invokevirtual 143, 3) := dgX9_behind_1.2.2.2.2.2.2.2.2.1
theorem dX9_behind_44 : decode cX9_behind 44 = .ok (.invokestatic 171, 3) := dgX9_behind_1.2.2.2.2.2.2.2.2.2.1
theorem dX9_behind_47 : decode cX9_behind 47 = .ok (.goto 8, 3) := dgX9_behind_1.2.2.2.2.2.2.2.2.2.2.1
theorem dX9_behind_50 : decode cX9_behind 50 = .ok (.aload_n 0, 1) := dgX9_behind_1.2.2.2.2.2.2.2.2.2.2.2.1
theorem dX9_behind_51 : decode cX9_behind 51 = .ok (.iload_n 2, 1) := dgX9_behind_1.2.2.2.2.2.2.2.2.2.2.2.2.1
theorem dX9_behind_52 : decode cX9_behind 52 = .ok (.invokevirtual 193, 3) := dgX9_behind_1.2.2.2.2.2.2.2.2.2.2.2.2.2.1
theorem dX9_behind_55 : decode cX9_behind 55 = .ok (.istore_n 3, 1) := dgX9_behind_1.2.2.2.2.2.2.2.2.2.2.2.2.2.2.1
theorem dX9_behind_56 : decode cX9_behind 56 = .ok (.aload_n 0, 1) := dgX9_behind_1.2.2.2.2.2.2.2.2.2.2.2.2.2.2.2
theorem dgX9_behind_2 : decode cX9_behind 57 = .ok (.invokevirtual 196, 3) ∧ decode cX9_behind 60 = .ok (.iload_n 3, 1) ∧ decode cX9_behind 61 = .ok (.ireturn, 1) := by decide +kernel
theorem dX9_behind_57 : decode cX9_behind 57 = .ok (.invokevirtual 196, 3) := dgX9_behind_2.1
theorem dX9_behind_60 : decode cX9_behind 60 = .ok (.iload_n 3, 1) := dgX9_behind_2.2.1
theorem dX9_behind_61 : decode cX9_behind 61 = .ok (.ireturn, 1) := dgX9_behind_2.2.2
abbrev pX9_behind : List Nat := [0, 20, 23, 50, 55]
def bX9_behind_0 (cal : ab_F) : ab_K := o_iload 1 <| o_push (.int 0) <| o_push (.int 100) <| o_callS cal 128 3 <| o_if (fun x => decide (x = 0)) 1 <| o_iload 2 <| o_push (.int 0) <| o_push (.int 14) <| o_callS cal 128 3 <| o_if (fun x => decide (¬ x = 0)) 2 <| o_goto 1
def bX9_behind_1 (cal : ab_F) : ab_K := o_push (.int (-1000000001)) <| o_ret (some .int)
def bX9_behind_2 (cal : ab_F) : ab_K := o_aload 0 <| o_callV cal 176 0 8 <| o_aload 0 <| o_iload 1 <| o_callV cal 160 1 8 <| o_iload 2 <| o_push (.int 2) <| o_cmp (fun x y => decide (x ≤ y)) 3 <| o_aload 0 <| o_iload 2 <| o_push (.int 3) <| o_bin (fun x y => x - y) <| o_callV cal 149 1 8 <| o_callS cal 132 1 <| o_goto 4
def bX9_behind_3 (cal : ab_F) : ab_K := o_aload 0 <| o_iload 2 <| o_callV cal 164 1 8 <| o_goto 4
def bX9_behind_4 (cal : ab_F) : ab_K := o_istore 3 <| o_aload 0 <| o_callV cal 177 0 8 <| o_iload 3 <| o_ret (some .int)
def bX9_behind (cal : ab_F) : List ab_K := [bX9_behind_0 cal, bX9_behind_1 cal, bX9_behind_2 cal, bX9_behind_3 cal, bX9_behind_4 cal]
set_option maxRecDepth 100000 in
theorem sX9_behind_0 {G : ab_G} {xs : List Int32} {d : Nat} {cal : ab_F} (hcs : ab_CS G (ab_Z G xs) ab_Mf cal d) : ab_Sd G (ab_Z G xs) (d + 1) (ab_mY mX9_behind pX9_behind) 0 (bX9_behind_0 cal) :=
  sn_iload_n dX9_behind_0 rfl <| sn_iconst dX9_behind_1 rfl <| sn_bipush dX9_behind_2 rfl <| sq_callS mt_128 hcs dX9_behind_4 w_1106 w_1107 w_63 w_1108 hy_128 hm_128 <| sn_if_eq (tg := 20) dX9_behind_7 rfl rfl <| sn_iload_n dX9_behind_10 rfl <| sn_iconst dX9_behind_11 rfl <| sn_bipush dX9_behind_12 rfl <| sq_callS mt_128 hcs dX9_behind_14 w_1106 w_1107 w_63 w_1108 hy_128 hm_128 <| sn_if_ne (tg := 23) dX9_behind_17 rfl rfl <| sn_next rfl
set_option maxRecDepth 100000 in
theorem sX9_behind_1 {G : ab_G} {xs : List Int32} {d : Nat} {cal : ab_F} (hcs : ab_CS G (ab_Z G xs) ab_Mf cal d) : ab_Sd G (ab_Z G xs) (d + 1) (ab_mY mX9_behind pX9_behind) 20 (bX9_behind_1 cal) :=
  sn_ldc dX9_behind_20 w_1109 <| sn_ret dX9_behind_22 ab_ri_int
set_option maxRecDepth 100000 in
theorem sX9_behind_2 {G : ab_G} {xs : List Int32} {d : Nat} {cal : ab_F} (hcs : ab_CS G (ab_Z G xs) ab_Mf cal d) : ab_Sd G (ab_Z G xs) (d + 1) (ab_mY mX9_behind pX9_behind) 23 (bX9_behind_2 cal) :=
  sn_aload_n dX9_behind_23 rfl <| sq_callV mt_176 hcs dX9_behind_24 rfl w_1304 w_1306 w_39 w_63 w_1307 hy_176 hm_176 <| sn_aload_n dX9_behind_27 rfl <| sn_iload_n dX9_behind_28 rfl <| sq_callV mt_160 hcs dX9_behind_29 rfl w_1229 w_1231 w_30 w_63 w_1232 hy_160 hm_160 <| sn_iload_n dX9_behind_32 rfl <| sn_iconst dX9_behind_33 rfl <| sn_cmp_le (tg := 50) dX9_behind_34 rfl rfl <| sn_aload_n dX9_behind_37 rfl <| sn_iload_n dX9_behind_38 rfl <| sn_iconst dX9_behind_39 rfl <| sn_isub dX9_behind_40 <| sq_callV mt_149 hcs dX9_behind_41 rfl w_1191 w_1193 w_27 w_63 w_1194 hy_149 hm_149 <| sq_callS mt_132 hcs dX9_behind_44 w_1257 w_1258 w_63 w_1259 hy_132 hm_132 <| sn_goto (tg := 55) dX9_behind_47 rfl rfl
set_option maxRecDepth 100000 in
theorem sX9_behind_3 {G : ab_G} {xs : List Int32} {d : Nat} {cal : ab_F} (hcs : ab_CS G (ab_Z G xs) ab_Mf cal d) : ab_Sd G (ab_Z G xs) (d + 1) (ab_mY mX9_behind pX9_behind) 50 (bX9_behind_3 cal) :=
  sn_aload_n dX9_behind_50 rfl <| sn_iload_n dX9_behind_51 rfl <| sq_callV mt_164 hcs dX9_behind_52 rfl w_1308 w_1242 w_1243 w_63 w_1244 hy_164 hm_164 <| sn_next rfl
set_option maxRecDepth 100000 in
theorem sX9_behind_4 {G : ab_G} {xs : List Int32} {d : Nat} {cal : ab_F} (hcs : ab_CS G (ab_Z G xs) ab_Mf cal d) : ab_Sd G (ab_Z G xs) (d + 1) (ab_mY mX9_behind pX9_behind) 55 (bX9_behind_4 cal) :=
  sn_istore_n dX9_behind_55 rfl (by decide) <| sn_aload_n dX9_behind_56 rfl <| sq_callV mt_177 hcs dX9_behind_57 rfl w_1309 w_1311 w_40 w_63 w_1312 hy_177 hm_177 <| sn_iload_n dX9_behind_60 rfl <| sn_ret dX9_behind_61 ab_ri_int
theorem sX9_behind {G : ab_G} {xs : List Int32} {d : Nat} {cal : ab_F} (hcs : ab_CS G (ab_Z G xs) ab_Mf cal d) : ab_BS G (ab_Z G xs) (d + 1) (ab_mY mX9_behind pX9_behind) pX9_behind (bX9_behind cal) := ⟨sX9_behind_0 hcs, sX9_behind_1 hcs, sX9_behind_2 hcs, sX9_behind_3 hcs, sX9_behind_4 hcs, trivial⟩
theorem dgX9_isLaid_0 : decode cX9_isLaid 0 = .ok (.aload_n 0, 1) ∧ decode cX9_isLaid 1 = .ok (.invokevirtual 159, 3) ∧ decode cX9_isLaid 4 = .ok (.istore_n 1, 1) ∧ decode cX9_isLaid 5 = .ok (.iload_n 1, 1) ∧ decode cX9_isLaid 6 = .ok (.bipush 12, 2) ∧ decode cX9_isLaid 8 = .ok (.if_icmp .eq 13, 3) ∧ decode cX9_isLaid 11 = .ok (.iload_n 1, 1) ∧ decode cX9_isLaid 12 = .ok (.aload_n 0, 1) ∧ decode cX9_isLaid 13 = .ok (.getfield 9, 3) ∧ decode cX9_isLaid 16 = .ok (.iconst 1, 1) ∧ decode cX9_isLaid 17 = .ok (.iaload, 1) ∧ decode cX9_isLaid 18 = .ok (.if_icmp .ne 7, 3) ∧ decode cX9_isLaid 21 = .ok (.iconst 1, 1) ∧ decode cX9_isLaid 22 = .ok (.goto 4, 3) ∧ decode cX9_isLaid 25 = .ok (.iconst 0, 1) ∧ decode cX9_isLaid 26 = .ok (.ireturn, 1) := by decide +kernel
theorem dX9_isLaid_0 : decode cX9_isLaid 0 = .ok (.aload_n 0, 1) := dgX9_isLaid_0.1
theorem dX9_isLaid_1 : decode cX9_isLaid 1 = .ok (.invokevirtual 159, 3) := dgX9_isLaid_0.2.1
theorem dX9_isLaid_4 : decode cX9_isLaid 4 = .ok (.istore_n 1, 1) := dgX9_isLaid_0.2.2.1
theorem dX9_isLaid_5 : decode cX9_isLaid 5 = .ok (.iload_n 1, 1) := dgX9_isLaid_0.2.2.2.1
theorem dX9_isLaid_6 : decode cX9_isLaid 6 = .ok (.bipush 12, 2) := dgX9_isLaid_0.2.2.2.2.1
theorem dX9_isLaid_8 : decode cX9_isLaid 8 = .ok (.if_icmp .eq 13, 3) := dgX9_isLaid_0.2.2.2.2.2.1
theorem dX9_isLaid_11 : decode cX9_isLaid 11 = .ok (.iload_n 1, 1) := dgX9_isLaid_0.2.2.2.2.2.2.1
theorem dX9_isLaid_12 : decode cX9_isLaid 12 = .ok (.aload_n 0, 1) := dgX9_isLaid_0.2.2.2.2.2.2.2.1
theorem dX9_isLaid_13 : decode cX9_isLaid 13 = .ok (.getfield 9, 3) := dgX9_isLaid_0.2.2.2.2.2.2.2.2.1
theorem dX9_isLaid_16 : decode cX9_isLaid 16 = .ok (.iconst 1, 1) := dgX9_isLaid_0.2.2.2.2.2.2.2.2.2.1
theorem dX9_isLaid_17 : decode cX9_isLaid 17 = .ok (.iaload, 1) := dgX9_isLaid_0.2.2.2.2.2.2.2.2.2.2.1
theorem dX9_isLaid_18 : decode cX9_isLaid 18 = .ok (.if_icmp .ne 7, 3) := dgX9_isLaid_0.2.2.2.2.2.2.2.2.2.2.2.1
theorem dX9_isLaid_21 : decode cX9_isLaid 21 = .ok (.iconst 1, 1) := dgX9_isLaid_0.2.2.2.2.2.2.2.2.2.2.2.2.1
theorem dX9_isLaid_22 : decode cX9_isLaid 22 = .ok (.goto 4, 3) := dgX9_isLaid_0.2.2.2.2.2.2.2.2.2.2.2.2.2.1
theorem dX9_isLaid_25 : decode cX9_isLaid 25 = .ok (.iconst 0, 1) := dgX9_isLaid_0.2.2.2.2.2.2.2.2.2.2.2.2.2.2.1
theorem dX9_isLaid_26 : decode cX9_isLaid 26 = .ok (.ireturn, 1) := dgX9_isLaid_0.2.2.2.2.2.2.2.2.2.2.2.2.2.2.2
abbrev pX9_isLaid : List Nat := [0, 21, 25, 26]
def bX9_isLaid_0 (cal : ab_F) : ab_K := o_aload 0 <| o_callV cal 157 0 8 <| o_istore 1 <| o_iload 1 <| o_push (.int 12) <| o_cmp (fun x y => decide (x = y)) 1 <| o_iload 1 <| o_aload 0 <| o_getf 8 0 <| o_push (.int 1) <| o_iald 0 <| o_cmp (fun x y => decide (¬ x = y)) 2 <| o_goto 1
def bX9_isLaid_1 (cal : ab_F) : ab_K := o_push (.int 1) <| o_goto 3
def bX9_isLaid_2 (cal : ab_F) : ab_K := o_push (.int 0) <| o_goto 3
def bX9_isLaid_3 (cal : ab_F) : ab_K := o_ret (some .boolean)
def bX9_isLaid (cal : ab_F) : List ab_K := [bX9_isLaid_0 cal, bX9_isLaid_1 cal, bX9_isLaid_2 cal, bX9_isLaid_3 cal]
set_option maxRecDepth 100000 in
theorem sX9_isLaid_0 {G : ab_G} {xs : List Int32} {d : Nat} {cal : ab_F} (hcs : ab_CS G (ab_Z G xs) ab_Mf cal d) : ab_Sd G (ab_Z G xs) (d + 1) (ab_mY mX9_isLaid pX9_isLaid) 0 (bX9_isLaid_0 cal) :=
  sn_aload_n dX9_isLaid_0 rfl <| sq_callV mt_157 hcs dX9_isLaid_1 rfl w_1225 w_1227 w_29 w_63 w_1228 hy_157 hm_157 <| sn_istore_n dX9_isLaid_4 rfl (by decide) <| sn_iload_n dX9_isLaid_5 rfl <| sn_bipush dX9_isLaid_6 rfl <| sn_cmp_eq (tg := 21) dX9_isLaid_8 rfl rfl <| sn_iload_n dX9_isLaid_11 rfl <| sn_aload_n dX9_isLaid_12 rfl <| sn_getf dX9_isLaid_13 rfl hinX9 (by decide) w_991 <| sn_iconst dX9_isLaid_16 rfl <| sn_iald dX9_isLaid_17 rfl <| sn_cmp_ne (tg := 25) dX9_isLaid_18 rfl rfl <| sn_next rfl
set_option maxRecDepth 100000 in
theorem sX9_isLaid_1 {G : ab_G} {xs : List Int32} {d : Nat} {cal : ab_F} (hcs : ab_CS G (ab_Z G xs) ab_Mf cal d) : ab_Sd G (ab_Z G xs) (d + 1) (ab_mY mX9_isLaid pX9_isLaid) 21 (bX9_isLaid_1 cal) :=
  sn_iconst dX9_isLaid_21 rfl <| sn_goto (tg := 26) dX9_isLaid_22 rfl rfl
set_option maxRecDepth 100000 in
theorem sX9_isLaid_2 {G : ab_G} {xs : List Int32} {d : Nat} {cal : ab_F} (hcs : ab_CS G (ab_Z G xs) ab_Mf cal d) : ab_Sd G (ab_Z G xs) (d + 1) (ab_mY mX9_isLaid pX9_isLaid) 25 (bX9_isLaid_2 cal) :=
  sn_iconst dX9_isLaid_25 rfl <| sn_next rfl
set_option maxRecDepth 100000 in
theorem sX9_isLaid_3 {G : ab_G} {xs : List Int32} {d : Nat} {cal : ab_F} (hcs : ab_CS G (ab_Z G xs) ab_Mf cal d) : ab_Sd G (ab_Z G xs) (d + 1) (ab_mY mX9_isLaid pX9_isLaid) 26 (bX9_isLaid_3 cal) :=
  sn_ret dX9_isLaid_26 ab_ri_bool
theorem sX9_isLaid {G : ab_G} {xs : List Int32} {d : Nat} {cal : ab_F} (hcs : ab_CS G (ab_Z G xs) ab_Mf cal d) : ab_BS G (ab_Z G xs) (d + 1) (ab_mY mX9_isLaid pX9_isLaid) pX9_isLaid (bX9_isLaid cal) := ⟨sX9_isLaid_0 hcs, sX9_isLaid_1 hcs, sX9_isLaid_2 hcs, sX9_isLaid_3 hcs, trivial⟩
theorem dgX9_laid_0 : decode cX9_laid 0 = .ok (.aload_n 0, 1) ∧ decode cX9_laid 1 = .ok (.invokevirtual 190, 3) ∧ decode cX9_laid 4 = .ok (.iconst 0, 1) ∧ decode cX9_laid 5 = .ok (.istore_n 1, 1) ∧ decode cX9_laid 6 = .ok (.iload_n 1, 1) ∧ decode cX9_laid 7 = .ok (.sipush 200, 3) ∧ decode cX9_laid 10 = .ok (.if_icmp .gt 20, 3) ∧ decode cX9_laid 13 = .ok (.aload_n 0, 1) ∧ decode cX9_laid 14 = .ok (.invokevirtual 199, 3) ∧ decode cX9_laid 17 = .ok (.ifCond .ne 13, 3) ∧ decode cX9_laid 20 = .ok (.aload_n 0, 1) ∧ decode cX9_laid 21 = .ok (.invokevirtual 156, 3) ∧ decode cX9_laid 24 = .ok (.iinc 1 1, 3) ∧ decode cX9_laid 27 = .ok (.goto (-21), 3) ∧ decode cX9_laid 30 = .ok (.aload_n 0, 1) ∧ decode cX9_laid 31 = .ok (.invokevirtual 196, 3) := by decide +kernel
theorem dX9_laid_0 : decode cX9_laid 0 = .ok (.aload_n 0, 1) := dgX9_laid_0.1
theorem dX9_laid_1 : decode cX9_laid 1 = .ok (.invokevirtual 190, 3) := dgX9_laid_0.2.1
theorem dX9_laid_4 : decode cX9_laid 4 = .ok (.iconst 0, 1) := dgX9_laid_0.2.2.1
theorem dX9_laid_5 : decode cX9_laid 5 = .ok (.istore_n 1, 1) := dgX9_laid_0.2.2.2.1
theorem dX9_laid_6 : decode cX9_laid 6 = .ok (.iload_n 1, 1) := dgX9_laid_0.2.2.2.2.1
theorem dX9_laid_7 : decode cX9_laid 7 = .ok (.sipush 200, 3) := dgX9_laid_0.2.2.2.2.2.1
theorem dX9_laid_10 : decode cX9_laid 10 = .ok (.if_icmp .gt 20, 3) := dgX9_laid_0.2.2.2.2.2.2.1
theorem dX9_laid_13 : decode cX9_laid 13 = .ok (.aload_n 0, 1) := dgX9_laid_0.2.2.2.2.2.2.2.1
theorem dX9_laid_14 : decode cX9_laid 14 = .ok (.invokevirtual 199, 3) := dgX9_laid_0.2.2.2.2.2.2.2.2.1
theorem dX9_laid_17 : decode cX9_laid 17 = .ok (.ifCond .ne 13, 3) := dgX9_laid_0.2.2.2.2.2.2.2.2.2.1
theorem dX9_laid_20 : decode cX9_laid 20 = .ok (.aload_n 0, 1) := dgX9_laid_0.2.2.2.2.2.2.2.2.2.2.1
theorem dX9_laid_21 : decode cX9_laid 21 = .ok (.invokevirtual 156, 3) := dgX9_laid_0.2.2.2.2.2.2.2.2.2.2.2.1
theorem dX9_laid_24 : decode cX9_laid 24 = .ok (.iinc 1 1, 3) := dgX9_laid_0.2.2.2.2.2.2.2.2.2.2.2.2.1
theorem dX9_laid_27 : decode cX9_laid 27 = .ok (.goto (-21), 3) := dgX9_laid_0.2.2.2.2.2.2.2.2.2.2.2.2.2.1
theorem dX9_laid_30 : decode cX9_laid 30 = .ok (.aload_n 0, 1) := dgX9_laid_0.2.2.2.2.2.2.2.2.2.2.2.2.2.2.1
theorem dX9_laid_31 : decode cX9_laid 31 = .ok (.invokevirtual 196, 3) := dgX9_laid_0.2.2.2.2.2.2.2.2.2.2.2.2.2.2.2
theorem dgX9_laid_1 : decode cX9_laid 34 = .ok (.iload_n 1, 1) ∧ decode cX9_laid 35 = .ok (.sipush 200, 3) ∧ decode cX9_laid 38 = .ok (.if_icmp .le 8, 3) ∧ decode cX9_laid 41 = .ok (.ldc 85, 2) ∧ decode cX9_laid 43 = .ok (.goto 4, 3) ∧ decode cX9_laid 46 = .ok (.iload_n 1, 1) ∧ decode cX9_laid 47 = .ok (.ireturn, 1) := by decide +kernel
theorem dX9_laid_34 : decode cX9_laid 34 = .ok (.iload_n 1, 1) := dgX9_laid_1.1
theorem dX9_laid_35 : decode cX9_laid 35 = .ok (.sipush 200, 3) := dgX9_laid_1.2.1
theorem dX9_laid_38 : decode cX9_laid 38 = .ok (.if_icmp .le 8, 3) := dgX9_laid_1.2.2.1
theorem dX9_laid_41 : decode cX9_laid 41 = .ok (.ldc 85, 2) := dgX9_laid_1.2.2.2.1
theorem dX9_laid_43 : decode cX9_laid 43 = .ok (.goto 4, 3) := dgX9_laid_1.2.2.2.2.1
theorem dX9_laid_46 : decode cX9_laid 46 = .ok (.iload_n 1, 1) := dgX9_laid_1.2.2.2.2.2.1
theorem dX9_laid_47 : decode cX9_laid 47 = .ok (.ireturn, 1) := dgX9_laid_1.2.2.2.2.2.2
abbrev pX9_laid : List Nat := [0, 6, 30, 46, 47]
def bX9_laid_0 (cal : ab_F) : ab_K := o_aload 0 <| o_callV cal 176 0 8 <| o_push (.int 0) <| o_istore 1 <| o_goto 1
def bX9_laid_1 (cal : ab_F) : ab_K := o_iload 1 <| o_push (.int 200) <| o_cmp (fun x y => decide (y < x)) 2 <| o_aload 0 <| o_callV cal 179 0 8 <| o_if (fun x => decide (¬ x = 0)) 2 <| o_aload 0 <| o_callV cal 159 0 8 <| o_iinc 1 1 <| o_goto 1
def bX9_laid_2 (cal : ab_F) : ab_K := o_aload 0 <| o_callV cal 177 0 8 <| o_iload 1 <| o_push (.int 200) <| o_cmp (fun x y => decide (x ≤ y)) 3 <| o_push (.int (-1000000005)) <| o_goto 4
def bX9_laid_3 (cal : ab_F) : ab_K := o_iload 1 <| o_goto 4
def bX9_laid_4 (cal : ab_F) : ab_K := o_ret (some .int)
def bX9_laid (cal : ab_F) : List ab_K := [bX9_laid_0 cal, bX9_laid_1 cal, bX9_laid_2 cal, bX9_laid_3 cal, bX9_laid_4 cal]
set_option maxRecDepth 100000 in
theorem sX9_laid_0 {G : ab_G} {xs : List Int32} {d : Nat} {cal : ab_F} (hcs : ab_CS G (ab_Z G xs) ab_Mf cal d) : ab_Sd G (ab_Z G xs) (d + 1) (ab_mY mX9_laid pX9_laid) 0 (bX9_laid_0 cal) :=
  sn_aload_n dX9_laid_0 rfl <| sq_callV mt_176 hcs dX9_laid_1 rfl w_1304 w_1306 w_39 w_63 w_1307 hy_176 hm_176 <| sn_iconst dX9_laid_4 rfl <| sn_istore_n dX9_laid_5 rfl (by decide) <| sn_next rfl
set_option maxRecDepth 100000 in
theorem sX9_laid_1 {G : ab_G} {xs : List Int32} {d : Nat} {cal : ab_F} (hcs : ab_CS G (ab_Z G xs) ab_Mf cal d) : ab_Sd G (ab_Z G xs) (d + 1) (ab_mY mX9_laid pX9_laid) 6 (bX9_laid_1 cal) :=
  sn_iload_n dX9_laid_6 rfl <| sn_sipush dX9_laid_7 rfl <| sn_cmp_gt (tg := 30) dX9_laid_10 rfl rfl <| sn_aload_n dX9_laid_13 rfl <| sq_callV mt_179 hcs dX9_laid_14 rfl w_1317 w_1319 w_41 w_63 w_1320 hy_179 hm_179 <| sn_if_ne (tg := 30) dX9_laid_17 rfl rfl <| sn_aload_n dX9_laid_20 rfl <| sq_callV mt_159 hcs dX9_laid_21 rfl w_1233 w_1235 w_31 w_63 w_1236 hy_159 hm_159 <| sn_iinc dX9_laid_24 rfl (by decide) <| sn_goto (tg := 6) dX9_laid_27 rfl rfl
set_option maxRecDepth 100000 in
theorem sX9_laid_2 {G : ab_G} {xs : List Int32} {d : Nat} {cal : ab_F} (hcs : ab_CS G (ab_Z G xs) ab_Mf cal d) : ab_Sd G (ab_Z G xs) (d + 1) (ab_mY mX9_laid pX9_laid) 30 (bX9_laid_2 cal) :=
  sn_aload_n dX9_laid_30 rfl <| sq_callV mt_177 hcs dX9_laid_31 rfl w_1309 w_1311 w_40 w_63 w_1312 hy_177 hm_177 <| sn_iload_n dX9_laid_34 rfl <| sn_sipush dX9_laid_35 rfl <| sn_cmp_le (tg := 46) dX9_laid_38 rfl rfl <| sn_ldc dX9_laid_41 w_1260 <| sn_goto (tg := 47) dX9_laid_43 rfl rfl
set_option maxRecDepth 100000 in
theorem sX9_laid_3 {G : ab_G} {xs : List Int32} {d : Nat} {cal : ab_F} (hcs : ab_CS G (ab_Z G xs) ab_Mf cal d) : ab_Sd G (ab_Z G xs) (d + 1) (ab_mY mX9_laid pX9_laid) 46 (bX9_laid_3 cal) :=
  sn_iload_n dX9_laid_46 rfl <| sn_next rfl
set_option maxRecDepth 100000 in
theorem sX9_laid_4 {G : ab_G} {xs : List Int32} {d : Nat} {cal : ab_F} (hcs : ab_CS G (ab_Z G xs) ab_Mf cal d) : ab_Sd G (ab_Z G xs) (d + 1) (ab_mY mX9_laid pX9_laid) 47 (bX9_laid_4 cal) :=
  sn_ret dX9_laid_47 ab_ri_int
theorem sX9_laid {G : ab_G} {xs : List Int32} {d : Nat} {cal : ab_F} (hcs : ab_CS G (ab_Z G xs) ab_Mf cal d) : ab_BS G (ab_Z G xs) (d + 1) (ab_mY mX9_laid pX9_laid) pX9_laid (bX9_laid cal) := ⟨sX9_laid_0 hcs, sX9_laid_1 hcs, sX9_laid_2 hcs, sX9_laid_3 hcs, sX9_laid_4 hcs, trivial⟩
theorem dgX9_lost_0 : decode cX9_lost 0 = .ok (.iload_n 1, 1) ∧ decode cX9_lost 1 = .ok (.iconst 0, 1) ∧ decode cX9_lost 2 = .ok (.bipush 60, 2) ∧ decode cX9_lost 4 = .ok (.invokestatic 86, 3) ∧ decode cX9_lost 7 = .ok (.ifCond .eq 12, 3) ∧ decode cX9_lost 10 = .ok (.iload_n 2, 1) ∧ decode cX9_lost 11 = .ok (.iconst 0, 1) ∧ decode cX9_lost 12 = .ok (.iconst 1, 1) ∧ decode cX9_lost 13 = .ok (.invokestatic 86, 3) ∧ decode cX9_lost 16 = .ok (.ifCond .ne 6, 3) ∧ decode cX9_lost 19 = .ok (.ldc 90, 2) ∧ decode cX9_lost 21 = .ok (.ireturn, 1) ∧ decode cX9_lost 22 = .ok (.aload_n 0, 1) ∧ decode cX9_lost 23 = .ok (.invokevirtual 190, 3) ∧ decode cX9_lost 26 = .ok (.iconst (-1), 1) ∧ decode cX9_lost 27 = .ok (.istore_n 3, 1) := by decide +kernel
theorem dX9_lost_0 : decode cX9_lost 0 = .ok (.iload_n 1, 1) := dgX9_lost_0.1
theorem dX9_lost_1 : decode cX9_lost 1 = .ok (.iconst 0, 1) := dgX9_lost_0.2.1
theorem dX9_lost_2 : decode cX9_lost 2 = .ok (.bipush 60, 2) := dgX9_lost_0.2.2.1
theorem dX9_lost_4 : decode cX9_lost 4 = .ok (.invokestatic 86, 3) := dgX9_lost_0.2.2.2.1
theorem dX9_lost_7 : decode cX9_lost 7 = .ok (.ifCond .eq 12, 3) := dgX9_lost_0.2.2.2.2.1
theorem dX9_lost_10 : decode cX9_lost 10 = .ok (.iload_n 2, 1) := dgX9_lost_0.2.2.2.2.2.1
theorem dX9_lost_11 : decode cX9_lost 11 = .ok (.iconst 0, 1) := dgX9_lost_0.2.2.2.2.2.2.1
theorem dX9_lost_12 : decode cX9_lost 12 = .ok (.iconst 1, 1) := dgX9_lost_0.2.2.2.2.2.2.2.1
theorem dX9_lost_13 : decode cX9_lost 13 = .ok (.invokestatic 86, 3) := dgX9_lost_0.2.2.2.2.2.2.2.2.1
theorem dX9_lost_16 : decode cX9_lost 16 = .ok (.ifCond .ne 6, 3) := dgX9_lost_0.2.2.2.2.2.2.2.2.2.1
theorem dX9_lost_19 : decode cX9_lost 19 = .ok (.ldc 90, 2) := dgX9_lost_0.2.2.2.2.2.2.2.2.2.2.1
theorem dX9_lost_21 : decode cX9_lost 21 = .ok (.ireturn, 1) := dgX9_lost_0.2.2.2.2.2.2.2.2.2.2.2.1
theorem dX9_lost_22 : decode cX9_lost 22 = .ok (.aload_n 0, 1) := dgX9_lost_0.2.2.2.2.2.2.2.2.2.2.2.2.1
theorem dX9_lost_23 : decode cX9_lost 23 = .ok (.invokevirtual 190, 3) := dgX9_lost_0.2.2.2.2.2.2.2.2.2.2.2.2.2.1
theorem dX9_lost_26 : decode cX9_lost 26 = .ok (.iconst (-1), 1) := dgX9_lost_0.2.2.2.2.2.2.2.2.2.2.2.2.2.2.1
theorem dX9_lost_27 : decode cX9_lost 27 = .ok (.istore_n 3, 1) := dgX9_lost_0.2.2.2.2.2.2.2.2.2.2.2.2.2.2.2
theorem dgX9_lost_1 : decode cX9_lost 28 = .ok (.iconst 0, 1) ∧ decode cX9_lost 29 = .ok (.istore 4, 2) ∧ decode cX9_lost 31 = .ok (.iconst 0, 1) ∧ decode cX9_lost 32 = .ok (.istore 5, 2) ∧ decode cX9_lost 34 = .ok (.iload 5, 2) ∧ decode cX9_lost 36 = .ok (.aload_n 0, 1) ∧ decode cX9_lost 37 = .ok (.getfield 9, 3) ∧ decode cX9_lost 40 = .ok (.iconst 1, 1) ∧ decode cX9_lost 41 = .ok (.iaload, 1) ∧ decode cX9_lost 42 = .ok (.if_icmp .ge 64, 3) ∧ decode cX9_lost 45 = .ok (.aload_n 0, 1) ∧ decode cX9_lost 46 = .ok (.getfield 9, 3) ∧ decode cX9_lost 49 = .ok (.bipush 29, 2) ∧ decode cX9_lost 51 = .ok (.iconst 5, 1) ∧ decode cX9_lost 52 = .ok (.iload 5, 2) ∧ decode cX9_lost 54 = .ok (.imul, 1) := by decide +kernel
theorem dX9_lost_28 : decode cX9_lost 28 = .ok (.iconst 0, 1) := dgX9_lost_1.1
theorem dX9_lost_29 : decode cX9_lost 29 = .ok (.istore 4, 2) := dgX9_lost_1.2.1
theorem dX9_lost_31 : decode cX9_lost 31 = .ok (.iconst 0, 1) := dgX9_lost_1.2.2.1
theorem dX9_lost_32 : decode cX9_lost 32 = .ok (.istore 5, 2) := dgX9_lost_1.2.2.2.1
theorem dX9_lost_34 : decode cX9_lost 34 = .ok (.iload 5, 2) := dgX9_lost_1.2.2.2.2.1
theorem dX9_lost_36 : decode cX9_lost 36 = .ok (.aload_n 0, 1) := dgX9_lost_1.2.2.2.2.2.1
theorem dX9_lost_37 : decode cX9_lost 37 = .ok (.getfield 9, 3) := dgX9_lost_1.2.2.2.2.2.2.1
theorem dX9_lost_40 : decode cX9_lost 40 = .ok (.iconst 1, 1) := dgX9_lost_1.2.2.2.2.2.2.2.1
theorem dX9_lost_41 : decode cX9_lost 41 = .ok (.iaload, 1) := dgX9_lost_1.2.2.2.2.2.2.2.2.1
theorem dX9_lost_42 : decode cX9_lost 42 = .ok (.if_icmp .ge 64, 3) := dgX9_lost_1.2.2.2.2.2.2.2.2.2.1
theorem dX9_lost_45 : decode cX9_lost 45 = .ok (.aload_n 0, 1) := dgX9_lost_1.2.2.2.2.2.2.2.2.2.2.1
theorem dX9_lost_46 : decode cX9_lost 46 = .ok (.getfield 9, 3) := dgX9_lost_1.2.2.2.2.2.2.2.2.2.2.2.1
theorem dX9_lost_49 : decode cX9_lost 49 = .ok (.bipush 29, 2) := dgX9_lost_1.2.2.2.2.2.2.2.2.2.2.2.2.1
theorem dX9_lost_51 : decode cX9_lost 51 = .ok (.iconst 5, 1) := dgX9_lost_1.2.2.2.2.2.2.2.2.2.2.2.2.2.1
theorem dX9_lost_52 : decode cX9_lost 52 = .ok (.iload 5, 2) := dgX9_lost_1.2.2.2.2.2.2.2.2.2.2.2.2.2.2.1
theorem dX9_lost_54 : decode cX9_lost 54 = .ok (.imul, 1) := dgX9_lost_1.2.2.2.2.2.2.2.2.2.2.2.2.2.2.2
theorem dgX9_lost_2 : decode cX9_lost 55 = .ok (.iadd, 1) ∧ decode cX9_lost 56 = .ok (.iconst 3, 1) ∧ decode cX9_lost 57 = .ok (.iadd, 1) ∧ decode cX9_lost 58 = .ok (.bipush 12, 2) ∧ decode cX9_lost 60 = .ok (.iastore, 1) ∧ decode cX9_lost 61 = .ok (.aload_n 0, 1) ∧ decode cX9_lost 62 = .ok (.iload 5, 2) ∧ decode cX9_lost 64 = .ok (.putfield 19, 3) ∧ decode cX9_lost 67 = .ok (.aload_n 0, 1) ∧ decode cX9_lost 68 = .ok (.iload_n 1, 1) ∧ decode cX9_lost 69 = .ok (.invokevirtual 162, 3) ∧ decode cX9_lost 72 = .ok (.aload_n 0, 1) ∧ decode cX9_lost 73 = .ok (.invokevirtual 165, 3) ∧ decode cX9_lost 76 = .ok (.istore 6, 2) ∧ decode cX9_lost 78 = .ok (.aload_n 0, 1) ∧ decode cX9_lost 79 = .ok (.invokevirtual 196, 3) := by decide +kernel
theorem dX9_lost_55 : decode cX9_lost 55 = .ok (.iadd, 1) := dgX9_lost_2.1
theorem dX9_lost_56 : decode cX9_lost 56 = .ok (.iconst 3, 1) := dgX9_lost_2.2.1
theorem dX9_lost_57 : decode cX9_lost 57 = .ok (.iadd, 1) := dgX9_lost_2.2.2.1
theorem dX9_lost_58 : decode cX9_lost 58 = .ok (.bipush 12, 2) := dgX9_lost_2.2.2.2.1
theorem dX9_lost_60 : decode cX9_lost 60 = .ok (.iastore, 1) := dgX9_lost_2.2.2.2.2.1
theorem dX9_lost_61 : decode cX9_lost 61 = .ok (.aload_n 0, 1) := dgX9_lost_2.2.2.2.2.2.1
theorem dX9_lost_62 : decode cX9_lost 62 = .ok (.iload 5, 2) := dgX9_lost_2.2.2.2.2.2.2.1
theorem dX9_lost_64 : decode cX9_lost 64 = .ok (.putfield 19, 3) := dgX9_lost_2.2.2.2.2.2.2.2.1
theorem dX9_lost_67 : decode cX9_lost 67 = .ok (.aload_n 0, 1) := dgX9_lost_2.2.2.2.2.2.2.2.2.1
theorem dX9_lost_68 : decode cX9_lost 68 = .ok (.iload_n 1, 1) := dgX9_lost_2.2.2.2.2.2.2.2.2.2.1
theorem dX9_lost_69 : decode cX9_lost 69 = .ok (.invokevirtual 162, 3) := dgX9_lost_2.2.2.2.2.2.2.2.2.2.2.1
theorem dX9_lost_72 : decode cX9_lost 72 = .ok (.aload_n 0, 1) := dgX9_lost_2.2.2.2.2.2.2.2.2.2.2.2.1
theorem dX9_lost_73 : decode cX9_lost 73 = .ok (.invokevirtual 165, 3) := dgX9_lost_2.2.2.2.2.2.2.2.2.2.2.2.2.1
theorem dX9_lost_76 : decode cX9_lost 76 = .ok (.istore 6, 2) := dgX9_lost_2.2.2.2.2.2.2.2.2.2.2.2.2.2.1
theorem dX9_lost_78 : decode cX9_lost 78 = .ok (.aload_n 0, 1) := dgX9_lost_2.2.2.2.2.2.2.2.2.2.2.2.2.2.2.1
theorem dX9_lost_79 : decode cX9_lost 79 = .ok (.invokevirtual 196, 3) := dgX9_lost_2.2.2.2.2.2.2.2.2.2.2.2.2.2.2.2
theorem dgX9_lost_3 : decode cX9_lost 82 = .ok (.iload_n 3, 1) ∧ decode cX9_lost 83 = .ok (.ifCond .lt 10, 3) ∧ decode cX9_lost 86 = .ok (.iload 6, 2) ∧ decode cX9_lost 88 = .ok (.iload 4, 2) ∧ decode cX9_lost 90 = .ok (.if_icmp .ge 10, 3) ∧ decode cX9_lost 93 = .ok (.iload 5, 2) ∧ decode cX9_lost 95 = .ok (.istore_n 3, 1) ∧ decode cX9_lost 96 = .ok (.iload 6, 2) ∧ decode cX9_lost 98 = .ok (.istore 4, 2) ∧ decode cX9_lost 100 = .ok (.iinc 5 1, 3) ∧ decode cX9_lost 103 = .ok (.goto (-69), 3) ∧ decode cX9_lost 106 = .ok (.iload_n 3, 1) ∧ decode cX9_lost 107 = .ok (.ifCond .ge 8, 3) ∧ decode cX9_lost 110 = .ok (.ldc 85, 2) ∧ decode cX9_lost 112 = .ok (.goto 13, 3) ∧ decode cX9_lost 115 = .ok (.iload_n 2, 1) := by decide +kernel
theorem dX9_lost_82 : decode cX9_lost 82 = .ok (.iload_n 3, 1) := dgX9_lost_3.1
theorem dX9_lost_83 : decode cX9_lost 83 = .ok (.ifCond .lt 10, 3) := dgX9_lost_3.2.1
theorem dX9_lost_86 : decode cX9_lost 86 = .ok (.iload 6, 2) := dgX9_lost_3.2.2.1
theorem dX9_lost_88 : decode cX9_lost 88 = .ok (.iload 4, 2) := dgX9_lost_3.2.2.2.1
theorem dX9_lost_90 : decode cX9_lost 90 = .ok (.if_icmp .ge 10, 3) := dgX9_lost_3.2.2.2.2.1
theorem dX9_lost_93 : decode cX9_lost 93 = .ok (.iload 5, 2) := dgX9_lost_3.2.2.2.2.2.1
theorem dX9_lost_95 : decode cX9_lost 95 = .ok (.istore_n 3, 1) := dgX9_lost_3.2.2.2.2.2.2.1
theorem dX9_lost_96 : decode cX9_lost 96 = .ok (.iload 6, 2) := dgX9_lost_3.2.2.2.2.2.2.2.1
theorem dX9_lost_98 : decode cX9_lost 98 = .ok (.istore 4, 2) := dgX9_lost_3.2.2.2.2.2.2.2.2.1
theorem dX9_lost_100 : decode cX9_lost 100 = .ok (.iinc 5 1, 3) := dgX9_lost_3.2.2.2.2.2.2.2.2.2.1
theorem dX9_lost_103 : decode cX9_lost 103 = .ok (.goto (-69), 3) := dgX9_lost_3.2.2.2.2.2.2.2.2.2.2.1
theorem dX9_lost_106 : decode cX9_lost 106 = .ok (.iload_n 3, 1) := dgX9_lost_3.2.2.2.2.2.2.2.2.2.2.2.1
theorem dX9_lost_107 : decode cX9_lost 107 = .ok (.ifCond .ge 8, 3) := dgX9_lost_3.2.2.2.2.2.2.2.2.2.2.2.2.1
theorem dX9_lost_110 : decode cX9_lost 110 = .ok (.ldc 85, 2) := dgX9_lost_3.2.2.2.2.2.2.2.2.2.2.2.2.2.1
theorem dX9_lost_112 : decode cX9_lost 112 = .ok (.goto 13, 3) := dgX9_lost_3.2.2.2.2.2.2.2.2.2.2.2.2.2.2.1
theorem dX9_lost_115 : decode cX9_lost 115 = .ok (.iload_n 2, 1) := dgX9_lost_3.2.2.2.2.2.2.2.2.2.2.2.2.2.2.2
theorem dgX9_lost_4 : decode cX9_lost 116 = .ok (.ifCond .ne 7, 3) ∧ decode cX9_lost 119 = .ok (.iload_n 3, 1) ∧ decode cX9_lost 120 = .ok (.goto 5, 3) ∧ decode cX9_lost 123 = .ok (.iload 4, 2) ∧ decode cX9_lost 125 = .ok (.ireturn, 1) := by decide +kernel
theorem dX9_lost_116 : decode cX9_lost 116 = .ok (.ifCond .ne 7, 3) := dgX9_lost_4.1
theorem dX9_lost_119 : decode cX9_lost 119 = .ok (.iload_n 3, 1) := dgX9_lost_4.2.1
theorem dX9_lost_120 : decode cX9_lost 120 = .ok (.goto 5, 3) := dgX9_lost_4.2.2.1
theorem dX9_lost_123 : decode cX9_lost 123 = .ok (.iload 4, 2) := dgX9_lost_4.2.2.2.1
theorem dX9_lost_125 : decode cX9_lost 125 = .ok (.ireturn, 1) := dgX9_lost_4.2.2.2.2
abbrev pX9_lost : List Nat := [0, 19, 22, 34, 93, 100, 106, 115, 123, 125]
def bX9_lost_0 (cal : ab_F) : ab_K := o_iload 1 <| o_push (.int 0) <| o_push (.int 60) <| o_callS cal 128 3 <| o_if (fun x => decide (x = 0)) 1 <| o_iload 2 <| o_push (.int 0) <| o_push (.int 1) <| o_callS cal 128 3 <| o_if (fun x => decide (¬ x = 0)) 2 <| o_goto 1
def bX9_lost_1 (cal : ab_F) : ab_K := o_push (.int (-1000000001)) <| o_ret (some .int)
def bX9_lost_2 (cal : ab_F) : ab_K := o_aload 0 <| o_callV cal 176 0 8 <| o_push (.int (-1)) <| o_istore 3 <| o_push (.int 0) <| o_istore 4 <| o_push (.int 0) <| o_istore 5 <| o_goto 3
def bX9_lost_3 (cal : ab_F) : ab_K := o_iload 5 <| o_aload 0 <| o_getf 8 0 <| o_push (.int 1) <| o_iald 0 <| o_cmp (fun x y => decide (y ≤ x)) 6 <| o_aload 0 <| o_getf 8 0 <| o_push (.int 29) <| o_push (.int 5) <| o_iload 5 <| o_bin (fun x y => x * y) <| o_bin (fun x y => x + y) <| o_push (.int 3) <| o_bin (fun x y => x + y) <| o_push (.int 12) <| o_iast 0 (fun x => x) <| o_aload 0 <| o_iload 5 <| o_putI 8 4 <| o_aload 0 <| o_iload 1 <| o_callV cal 160 1 8 <| o_aload 0 <| o_callV cal 162 0 8 <| o_istore 6 <| o_aload 0 <| o_callV cal 177 0 8 <| o_iload 3 <| o_if (fun x => decide (x < 0)) 4 <| o_iload 6 <| o_iload 4 <| o_cmp (fun x y => decide (y ≤ x)) 5 <| o_goto 4
def bX9_lost_4 (cal : ab_F) : ab_K := o_iload 5 <| o_istore 3 <| o_iload 6 <| o_istore 4 <| o_goto 5
def bX9_lost_5 (cal : ab_F) : ab_K := o_iinc 5 1 <| o_goto 3
def bX9_lost_6 (cal : ab_F) : ab_K := o_iload 3 <| o_if (fun x => decide (0 ≤ x)) 7 <| o_push (.int (-1000000005)) <| o_goto 9
def bX9_lost_7 (cal : ab_F) : ab_K := o_iload 2 <| o_if (fun x => decide (¬ x = 0)) 8 <| o_iload 3 <| o_goto 9
def bX9_lost_8 (cal : ab_F) : ab_K := o_iload 4 <| o_goto 9
def bX9_lost_9 (cal : ab_F) : ab_K := o_ret (some .int)
def bX9_lost (cal : ab_F) : List ab_K := [bX9_lost_0 cal, bX9_lost_1 cal, bX9_lost_2 cal, bX9_lost_3 cal, bX9_lost_4 cal, bX9_lost_5 cal, bX9_lost_6 cal, bX9_lost_7 cal, bX9_lost_8 cal, bX9_lost_9 cal]
set_option maxRecDepth 100000 in
theorem sX9_lost_0 {G : ab_G} {xs : List Int32} {d : Nat} {cal : ab_F} (hcs : ab_CS G (ab_Z G xs) ab_Mf cal d) : ab_Sd G (ab_Z G xs) (d + 1) (ab_mY mX9_lost pX9_lost) 0 (bX9_lost_0 cal) :=
  sn_iload_n dX9_lost_0 rfl <| sn_iconst dX9_lost_1 rfl <| sn_bipush dX9_lost_2 rfl <| sq_callS mt_128 hcs dX9_lost_4 w_1106 w_1107 w_63 w_1108 hy_128 hm_128 <| sn_if_eq (tg := 19) dX9_lost_7 rfl rfl <| sn_iload_n dX9_lost_10 rfl <| sn_iconst dX9_lost_11 rfl <| sn_iconst dX9_lost_12 rfl <| sq_callS mt_128 hcs dX9_lost_13 w_1106 w_1107 w_63 w_1108 hy_128 hm_128 <| sn_if_ne (tg := 22) dX9_lost_16 rfl rfl <| sn_next rfl
set_option maxRecDepth 100000 in
theorem sX9_lost_1 {G : ab_G} {xs : List Int32} {d : Nat} {cal : ab_F} (hcs : ab_CS G (ab_Z G xs) ab_Mf cal d) : ab_Sd G (ab_Z G xs) (d + 1) (ab_mY mX9_lost pX9_lost) 19 (bX9_lost_1 cal) :=
  sn_ldc dX9_lost_19 w_1109 <| sn_ret dX9_lost_21 ab_ri_int
set_option maxRecDepth 100000 in
theorem sX9_lost_2 {G : ab_G} {xs : List Int32} {d : Nat} {cal : ab_F} (hcs : ab_CS G (ab_Z G xs) ab_Mf cal d) : ab_Sd G (ab_Z G xs) (d + 1) (ab_mY mX9_lost pX9_lost) 22 (bX9_lost_2 cal) :=
  sn_aload_n dX9_lost_22 rfl <| sq_callV mt_176 hcs dX9_lost_23 rfl w_1304 w_1306 w_39 w_63 w_1307 hy_176 hm_176 <| sn_iconst dX9_lost_26 rfl <| sn_istore_n dX9_lost_27 rfl (by decide) <| sn_iconst dX9_lost_28 rfl <| sn_istore dX9_lost_29 (by decide) <| sn_iconst dX9_lost_31 rfl <| sn_istore dX9_lost_32 (by decide) <| sn_next rfl
set_option maxRecDepth 100000 in
theorem sX9_lost_3 {G : ab_G} {xs : List Int32} {d : Nat} {cal : ab_F} (hcs : ab_CS G (ab_Z G xs) ab_Mf cal d) : ab_Sd G (ab_Z G xs) (d + 1) (ab_mY mX9_lost pX9_lost) 34 (bX9_lost_3 cal) :=
  sn_iload dX9_lost_34 <| sn_aload_n dX9_lost_36 rfl <| sn_getf dX9_lost_37 rfl hinX9 (by decide) w_991 <| sn_iconst dX9_lost_40 rfl <| sn_iald dX9_lost_41 rfl <| sn_cmp_ge (tg := 106) dX9_lost_42 rfl rfl <| sn_aload_n dX9_lost_45 rfl <| sn_getf dX9_lost_46 rfl hinX9 (by decide) w_991 <| sn_bipush dX9_lost_49 rfl <| sn_iconst dX9_lost_51 rfl <| sn_iload dX9_lost_52 <| sn_imul dX9_lost_54 <| sn_iadd dX9_lost_55 <| sn_iconst dX9_lost_56 rfl <| sn_iadd dX9_lost_57 <| sn_bipush dX9_lost_58 rfl <| sn_iast dX9_lost_60 rfl rfl <| sn_aload_n dX9_lost_61 rfl <| sn_iload dX9_lost_62 <| sn_putI tyX9 tyX9_ok nmX9 dX9_lost_64 rfl hinX9 (by decide) w_995 (Or.inl rfl) (tyX9_ok 4 (by decide)) <| sn_aload_n dX9_lost_67 rfl <| sn_iload_n dX9_lost_68 rfl <| sq_callV mt_160 hcs dX9_lost_69 rfl w_1229 w_1231 w_30 w_63 w_1232 hy_160 hm_160 <| sn_aload_n dX9_lost_72 rfl <| sq_callV mt_162 hcs dX9_lost_73 rfl w_1245 w_1247 w_33 w_63 w_1248 hy_162 hm_162 <| sn_istore dX9_lost_76 (by decide) <| sn_aload_n dX9_lost_78 rfl <| sq_callV mt_177 hcs dX9_lost_79 rfl w_1309 w_1311 w_40 w_63 w_1312 hy_177 hm_177 <| sn_iload_n dX9_lost_82 rfl <| sn_if_lt (tg := 93) dX9_lost_83 rfl rfl <| sn_iload dX9_lost_86 <| sn_iload dX9_lost_88 <| sn_cmp_ge (tg := 100) dX9_lost_90 rfl rfl <| sn_next rfl
set_option maxRecDepth 100000 in
theorem sX9_lost_4 {G : ab_G} {xs : List Int32} {d : Nat} {cal : ab_F} (hcs : ab_CS G (ab_Z G xs) ab_Mf cal d) : ab_Sd G (ab_Z G xs) (d + 1) (ab_mY mX9_lost pX9_lost) 93 (bX9_lost_4 cal) :=
  sn_iload dX9_lost_93 <| sn_istore_n dX9_lost_95 rfl (by decide) <| sn_iload dX9_lost_96 <| sn_istore dX9_lost_98 (by decide) <| sn_next rfl
set_option maxRecDepth 100000 in
theorem sX9_lost_5 {G : ab_G} {xs : List Int32} {d : Nat} {cal : ab_F} (hcs : ab_CS G (ab_Z G xs) ab_Mf cal d) : ab_Sd G (ab_Z G xs) (d + 1) (ab_mY mX9_lost pX9_lost) 100 (bX9_lost_5 cal) :=
  sn_iinc dX9_lost_100 rfl (by decide) <| sn_goto (tg := 34) dX9_lost_103 rfl rfl
set_option maxRecDepth 100000 in
theorem sX9_lost_6 {G : ab_G} {xs : List Int32} {d : Nat} {cal : ab_F} (hcs : ab_CS G (ab_Z G xs) ab_Mf cal d) : ab_Sd G (ab_Z G xs) (d + 1) (ab_mY mX9_lost pX9_lost) 106 (bX9_lost_6 cal) :=
  sn_iload_n dX9_lost_106 rfl <| sn_if_ge (tg := 115) dX9_lost_107 rfl rfl <| sn_ldc dX9_lost_110 w_1260 <| sn_goto (tg := 125) dX9_lost_112 rfl rfl
set_option maxRecDepth 100000 in
theorem sX9_lost_7 {G : ab_G} {xs : List Int32} {d : Nat} {cal : ab_F} (hcs : ab_CS G (ab_Z G xs) ab_Mf cal d) : ab_Sd G (ab_Z G xs) (d + 1) (ab_mY mX9_lost pX9_lost) 115 (bX9_lost_7 cal) :=
  sn_iload_n dX9_lost_115 rfl <| sn_if_ne (tg := 123) dX9_lost_116 rfl rfl <| sn_iload_n dX9_lost_119 rfl <| sn_goto (tg := 125) dX9_lost_120 rfl rfl
set_option maxRecDepth 100000 in
theorem sX9_lost_8 {G : ab_G} {xs : List Int32} {d : Nat} {cal : ab_F} (hcs : ab_CS G (ab_Z G xs) ab_Mf cal d) : ab_Sd G (ab_Z G xs) (d + 1) (ab_mY mX9_lost pX9_lost) 123 (bX9_lost_8 cal) :=
  sn_iload dX9_lost_123 <| sn_next rfl
set_option maxRecDepth 100000 in
theorem sX9_lost_9 {G : ab_G} {xs : List Int32} {d : Nat} {cal : ab_F} (hcs : ab_CS G (ab_Z G xs) ab_Mf cal d) : ab_Sd G (ab_Z G xs) (d + 1) (ab_mY mX9_lost pX9_lost) 125 (bX9_lost_9 cal) :=
  sn_ret dX9_lost_125 ab_ri_int
theorem sX9_lost {G : ab_G} {xs : List Int32} {d : Nat} {cal : ab_F} (hcs : ab_CS G (ab_Z G xs) ab_Mf cal d) : ab_BS G (ab_Z G xs) (d + 1) (ab_mY mX9_lost pX9_lost) pX9_lost (bX9_lost cal) := ⟨sX9_lost_0 hcs, sX9_lost_1 hcs, sX9_lost_2 hcs, sX9_lost_3 hcs, sX9_lost_4 hcs, sX9_lost_5 hcs, sX9_lost_6 hcs, sX9_lost_7 hcs, sX9_lost_8 hcs, sX9_lost_9 hcs, trivial⟩
theorem dgX9_darkAt_0 : decode cX9_darkAt 0 = .ok (.iload_n 1, 1) ∧ decode cX9_darkAt 1 = .ok (.iconst 2, 1) ∧ decode cX9_darkAt 2 = .ok (.idiv, 1) ∧ decode cX9_darkAt 3 = .ok (.istore_n 2, 1) ∧ decode cX9_darkAt 4 = .ok (.aload_n 0, 1) ∧ decode cX9_darkAt 5 = .ok (.iload_n 2, 1) ∧ decode cX9_darkAt 6 = .ok (.invokevirtual 143, 3) ∧ decode cX9_darkAt 9 = .ok (.istore_n 3, 1) ∧ decode cX9_darkAt 10 = .ok (.iload_n 3, 1) ∧ decode cX9_darkAt 11 = .ok (.ifCond .ge 7, 3) ∧ decode cX9_darkAt 14 = .ok (.iconst 0, 1) ∧ decode cX9_darkAt 15 = .ok (.goto 25, 3) ∧ decode cX9_darkAt 18 = .ok (.aload_n 0, 1) ∧ decode cX9_darkAt 19 = .ok (.iload_n 3, 1) ∧ decode cX9_darkAt 20 = .ok (.aload_n 0, 1) ∧ decode cX9_darkAt 21 = .ok (.iload_n 3, 1) := by decide +kernel
theorem dX9_darkAt_0 : decode cX9_darkAt 0 = .ok (.iload_n 1, 1) := dgX9_darkAt_0.1
theorem dX9_darkAt_1 : decode cX9_darkAt 1 = .ok (.iconst 2, 1) := dgX9_darkAt_0.2.1
theorem dX9_darkAt_2 : decode cX9_darkAt 2 = .ok (.idiv, 1) := dgX9_darkAt_0.2.2.1
theorem dX9_darkAt_3 : decode cX9_darkAt 3 = .ok (.istore_n 2, 1) := dgX9_darkAt_0.2.2.2.1
theorem dX9_darkAt_4 : decode cX9_darkAt 4 = .ok (.aload_n 0, 1) := dgX9_darkAt_0.2.2.2.2.1
theorem dX9_darkAt_5 : decode cX9_darkAt 5 = .ok (.iload_n 2, 1) := dgX9_darkAt_0.2.2.2.2.2.1
theorem dX9_darkAt_6 : decode cX9_darkAt 6 = .ok (.invokevirtual 143, 3) := dgX9_darkAt_0.2.2.2.2.2.2.1
theorem dX9_darkAt_9 : decode cX9_darkAt 9 = .ok (.istore_n 3, 1) := dgX9_darkAt_0.2.2.2.2.2.2.2.1
theorem dX9_darkAt_10 : decode cX9_darkAt 10 = .ok (.iload_n 3, 1) := dgX9_darkAt_0.2.2.2.2.2.2.2.2.1
theorem dX9_darkAt_11 : decode cX9_darkAt 11 = .ok (.ifCond .ge 7, 3) := dgX9_darkAt_0.2.2.2.2.2.2.2.2.2.1
theorem dX9_darkAt_14 : decode cX9_darkAt 14 = .ok (.iconst 0, 1) := dgX9_darkAt_0.2.2.2.2.2.2.2.2.2.2.1
theorem dX9_darkAt_15 : decode cX9_darkAt 15 = .ok (.goto 25, 3) := dgX9_darkAt_0.2.2.2.2.2.2.2.2.2.2.2.1
theorem dX9_darkAt_18 : decode cX9_darkAt 18 = .ok (.aload_n 0, 1) := dgX9_darkAt_0.2.2.2.2.2.2.2.2.2.2.2.2.1
theorem dX9_darkAt_19 : decode cX9_darkAt 19 = .ok (.iload_n 3, 1) := dgX9_darkAt_0.2.2.2.2.2.2.2.2.2.2.2.2.2.1
theorem dX9_darkAt_20 : decode cX9_darkAt 20 = .ok (.aload_n 0, 1) := dgX9_darkAt_0.2.2.2.2.2.2.2.2.2.2.2.2.2.2.1
theorem dX9_darkAt_21 : decode cX9_darkAt 21 = .ok (.iload_n 3, 1) := dgX9_darkAt_0.2.2.2.2.2.2.2.2.2.2.2.2.2.2.2
theorem dgX9_darkAt_1 : decode cX9_darkAt 22 = .ok (.iload_n 1, 1) ∧ decode cX9_darkAt 23 = .ok (.iconst 2, 1) ∧ decode cX9_darkAt 24 = .ok (.irem, 1) ∧ decode cX9_darkAt 25 = .ok (.aload_n 0, 1) ∧ decode cX9_darkAt 26 = .ok (.iload_n 3, 1) ∧ decode cX9_darkAt 27 = .ok (.iconst 4, 1) ∧ decode cX9_darkAt 28 = .ok (.invokevirtual 96, 3) ∧ decode cX9_darkAt 31 = .ok (.invokevirtual 120, 3) ∧ decode cX9_darkAt 34 = .ok (.iload_n 2, 1) ∧ decode cX9_darkAt 35 = .ok (.iconst 3, 1) ∧ decode cX9_darkAt 36 = .ok (.idiv, 1) ∧ decode cX9_darkAt 37 = .ok (.invokevirtual 123, 3) ∧ decode cX9_darkAt 40 = .ok (.ireturn, 1) := by decide +kernel
theorem dX9_darkAt_22 : decode cX9_darkAt 22 = .ok (.iload_n 1, 1) := dgX9_darkAt_1.1
theorem dX9_darkAt_23 : decode cX9_darkAt 23 = .ok (.iconst 2, 1) := dgX9_darkAt_1.2.1
theorem dX9_darkAt_24 : decode cX9_darkAt 24 = .ok (.irem, 1) := dgX9_darkAt_1.2.2.1
theorem dX9_darkAt_25 : decode cX9_darkAt 25 = .ok (.aload_n 0, 1) := dgX9_darkAt_1.2.2.2.1
theorem dX9_darkAt_26 : decode cX9_darkAt 26 = .ok (.iload_n 3, 1) := dgX9_darkAt_1.2.2.2.2.1
theorem dX9_darkAt_27 : decode cX9_darkAt 27 = .ok (.iconst 4, 1) := dgX9_darkAt_1.2.2.2.2.2.1
theorem dX9_darkAt_28 : decode cX9_darkAt 28 = .ok (.invokevirtual 96, 3) := dgX9_darkAt_1.2.2.2.2.2.2.1
theorem dX9_darkAt_31 : decode cX9_darkAt 31 = .ok (.invokevirtual 120, 3) := dgX9_darkAt_1.2.2.2.2.2.2.2.1
theorem dX9_darkAt_34 : decode cX9_darkAt 34 = .ok (.iload_n 2, 1) := dgX9_darkAt_1.2.2.2.2.2.2.2.2.1
theorem dX9_darkAt_35 : decode cX9_darkAt 35 = .ok (.iconst 3, 1) := dgX9_darkAt_1.2.2.2.2.2.2.2.2.2.1
theorem dX9_darkAt_36 : decode cX9_darkAt 36 = .ok (.idiv, 1) := dgX9_darkAt_1.2.2.2.2.2.2.2.2.2.2.1
theorem dX9_darkAt_37 : decode cX9_darkAt 37 = .ok (.invokevirtual 123, 3) := dgX9_darkAt_1.2.2.2.2.2.2.2.2.2.2.2.1
theorem dX9_darkAt_40 : decode cX9_darkAt 40 = .ok (.ireturn, 1) := dgX9_darkAt_1.2.2.2.2.2.2.2.2.2.2.2.2
abbrev pX9_darkAt : List Nat := [0, 18, 40]
def bX9_darkAt_0 (cal : ab_F) : ab_K := o_iload 1 <| o_push (.int 2) <| o_div (fun x y => x / y) <| o_istore 2 <| o_aload 0 <| o_iload 2 <| o_callV cal 149 1 8 <| o_istore 3 <| o_iload 3 <| o_if (fun x => decide (0 ≤ x)) 1 <| o_push (.int 0) <| o_goto 2
def bX9_darkAt_1 (cal : ab_F) : ab_K := o_aload 0 <| o_iload 3 <| o_aload 0 <| o_iload 3 <| o_iload 1 <| o_push (.int 2) <| o_div (fun x y => x - x / y * y) <| o_aload 0 <| o_iload 3 <| o_push (.int 4) <| o_callV cal 135 2 8 <| o_callV cal 142 3 8 <| o_iload 2 <| o_push (.int 3) <| o_div (fun x y => x / y) <| o_callV cal 143 3 8 <| o_goto 2
def bX9_darkAt_2 (cal : ab_F) : ab_K := o_ret (some .int)
def bX9_darkAt (cal : ab_F) : List ab_K := [bX9_darkAt_0 cal, bX9_darkAt_1 cal, bX9_darkAt_2 cal]
set_option maxRecDepth 100000 in
theorem sX9_darkAt_0 {G : ab_G} {xs : List Int32} {d : Nat} {cal : ab_F} (hcs : ab_CS G (ab_Z G xs) ab_Mf cal d) : ab_Sd G (ab_Z G xs) (d + 1) (ab_mY mX9_darkAt pX9_darkAt) 0 (bX9_darkAt_0 cal) :=
  sn_iload_n dX9_darkAt_0 rfl <| sn_iconst dX9_darkAt_1 rfl <| sn_idiv dX9_darkAt_2 <| sn_istore_n dX9_darkAt_3 rfl (by decide) <| sn_aload_n dX9_darkAt_4 rfl <| sn_iload_n dX9_darkAt_5 rfl <| sq_callV mt_149 hcs dX9_darkAt_6 rfl w_1191 w_1193 w_27 w_63 w_1194 hy_149 hm_149 <| sn_istore_n dX9_darkAt_9 rfl (by decide) <| sn_iload_n dX9_darkAt_10 rfl <| sn_if_ge (tg := 18) dX9_darkAt_11 rfl rfl <| sn_iconst dX9_darkAt_14 rfl <| sn_goto (tg := 40) dX9_darkAt_15 rfl rfl
set_option maxRecDepth 100000 in
theorem sX9_darkAt_1 {G : ab_G} {xs : List Int32} {d : Nat} {cal : ab_F} (hcs : ab_CS G (ab_Z G xs) ab_Mf cal d) : ab_Sd G (ab_Z G xs) (d + 1) (ab_mY mX9_darkAt pX9_darkAt) 18 (bX9_darkAt_1 cal) :=
  sn_aload_n dX9_darkAt_18 rfl <| sn_iload_n dX9_darkAt_19 rfl <| sn_aload_n dX9_darkAt_20 rfl <| sn_iload_n dX9_darkAt_21 rfl <| sn_iload_n dX9_darkAt_22 rfl <| sn_iconst dX9_darkAt_23 rfl <| sn_irem dX9_darkAt_24 <| sn_aload_n dX9_darkAt_25 rfl <| sn_iload_n dX9_darkAt_26 rfl <| sn_iconst dX9_darkAt_27 rfl <| sq_callV mt_135 hcs dX9_darkAt_28 rfl w_1123 w_1125 w_18 w_63 w_1126 hy_135 hm_135 <| sq_callV mt_142 hcs dX9_darkAt_31 rfl w_1146 w_1148 w_22 w_63 w_1149 hy_142 hm_142 <| sn_iload_n dX9_darkAt_34 rfl <| sn_iconst dX9_darkAt_35 rfl <| sn_idiv dX9_darkAt_36 <| sq_callV mt_143 hcs dX9_darkAt_37 rfl w_1150 w_1152 w_23 w_63 w_1153 hy_143 hm_143 <| sn_next rfl
set_option maxRecDepth 100000 in
theorem sX9_darkAt_2 {G : ab_G} {xs : List Int32} {d : Nat} {cal : ab_F} (hcs : ab_CS G (ab_Z G xs) ab_Mf cal d) : ab_Sd G (ab_Z G xs) (d + 1) (ab_mY mX9_darkAt pX9_darkAt) 40 (bX9_darkAt_2 cal) :=
  sn_ret dX9_darkAt_40 ab_ri_int
theorem sX9_darkAt {G : ab_G} {xs : List Int32} {d : Nat} {cal : ab_F} (hcs : ab_CS G (ab_Z G xs) ab_Mf cal d) : ab_BS G (ab_Z G xs) (d + 1) (ab_mY mX9_darkAt pX9_darkAt) pX9_darkAt (bX9_darkAt cal) := ⟨sX9_darkAt_0 hcs, sX9_darkAt_1 hcs, sX9_darkAt_2 hcs, trivial⟩
theorem dgX9_offBy_0 : decode cX9_offBy 0 = .ok (.lconst 0, 1) ∧ decode cX9_offBy 1 = .ok (.lstore_n 3, 1) ∧ decode cX9_offBy 2 = .ok (.iconst 0, 1) ∧ decode cX9_offBy 3 = .ok (.istore 5, 2) ∧ decode cX9_offBy 5 = .ok (.iload 5, 2) ∧ decode cX9_offBy 7 = .ok (.aload_n 0, 1) ∧ decode cX9_offBy 8 = .ok (.getfield 61, 3) ∧ decode cX9_offBy 11 = .ok (.iload_n 1, 1) ∧ decode cX9_offBy 12 = .ok (.iaload, 1) ∧ decode cX9_offBy 13 = .ok (.if_icmp .ge 81, 3) ∧ decode cX9_offBy 16 = .ok (.aload_n 0, 1) ∧ decode cX9_offBy 17 = .ok (.getfield 64, 3) ∧ decode cX9_offBy 20 = .ok (.bipush 24, 2) ∧ decode cX9_offBy 22 = .ok (.iload_n 1, 1) ∧ decode cX9_offBy 23 = .ok (.imul, 1) ∧ decode cX9_offBy 24 = .ok (.iload 5, 2) := by decide +kernel
theorem dX9_offBy_0 : decode cX9_offBy 0 = .ok (.lconst 0, 1) := dgX9_offBy_0.1
theorem dX9_offBy_1 : decode cX9_offBy 1 = .ok (.lstore_n 3, 1) := dgX9_offBy_0.2.1
theorem dX9_offBy_2 : decode cX9_offBy 2 = .ok (.iconst 0, 1) := dgX9_offBy_0.2.2.1
theorem dX9_offBy_3 : decode cX9_offBy 3 = .ok (.istore 5, 2) := dgX9_offBy_0.2.2.2.1
theorem dX9_offBy_5 : decode cX9_offBy 5 = .ok (.iload 5, 2) := dgX9_offBy_0.2.2.2.2.1
theorem dX9_offBy_7 : decode cX9_offBy 7 = .ok (.aload_n 0, 1) := dgX9_offBy_0.2.2.2.2.2.1
theorem dX9_offBy_8 : decode cX9_offBy 8 = .ok (.getfield 61, 3) := dgX9_offBy_0.2.2.2.2.2.2.1
theorem dX9_offBy_11 : decode cX9_offBy 11 = .ok (.iload_n 1, 1) := dgX9_offBy_0.2.2.2.2.2.2.2.1
theorem dX9_offBy_12 : decode cX9_offBy 12 = .ok (.iaload, 1) := dgX9_offBy_0.2.2.2.2.2.2.2.2.1
theorem dX9_offBy_13 : decode cX9_offBy 13 = .ok (.if_icmp .ge 81, 3) := dgX9_offBy_0.2.2.2.2.2.2.2.2.2.1
theorem dX9_offBy_16 : decode cX9_offBy 16 = .ok (.aload_n 0, 1) := dgX9_offBy_0.2.2.2.2.2.2.2.2.2.2.1
theorem dX9_offBy_17 : decode cX9_offBy 17 = .ok (.getfield 64, 3) := dgX9_offBy_0.2.2.2.2.2.2.2.2.2.2.2.1
theorem dX9_offBy_20 : decode cX9_offBy 20 = .ok (.bipush 24, 2) := dgX9_offBy_0.2.2.2.2.2.2.2.2.2.2.2.2.1
theorem dX9_offBy_22 : decode cX9_offBy 22 = .ok (.iload_n 1, 1) := dgX9_offBy_0.2.2.2.2.2.2.2.2.2.2.2.2.2.1
theorem dX9_offBy_23 : decode cX9_offBy 23 = .ok (.imul, 1) := dgX9_offBy_0.2.2.2.2.2.2.2.2.2.2.2.2.2.2.1
theorem dX9_offBy_24 : decode cX9_offBy 24 = .ok (.iload 5, 2) := dgX9_offBy_0.2.2.2.2.2.2.2.2.2.2.2.2.2.2.2
theorem dgX9_offBy_1 : decode cX9_offBy 26 = .ok (.iadd, 1) ∧ decode cX9_offBy 27 = .ok (.iaload, 1) ∧ decode cX9_offBy 28 = .ok (.istore 6, 2) ∧ decode cX9_offBy 30 = .ok (.iload 6, 2) ∧ decode cX9_offBy 32 = .ok (.i2l, 1) ∧ decode cX9_offBy 33 = .ok (.iload 5, 2) ∧ decode cX9_offBy 35 = .ok (.bipush 6, 2) ∧ decode cX9_offBy 37 = .ok (.if_icmp .ge 17, 3) ∧ decode cX9_offBy 40 = .ok (.aload_n 0, 1) ∧ decode cX9_offBy 41 = .ok (.bipush 6, 2) ∧ decode cX9_offBy 43 = .ok (.iload_n 2, 1) ∧ decode cX9_offBy 44 = .ok (.imul, 1) ∧ decode cX9_offBy 45 = .ok (.iload 5, 2) ∧ decode cX9_offBy 47 = .ok (.iadd, 1) ∧ decode cX9_offBy 48 = .ok (.invokevirtual 203, 3) ∧ decode cX9_offBy 51 = .ok (.goto 4, 3) := by decide +kernel
theorem dX9_offBy_26 : decode cX9_offBy 26 = .ok (.iadd, 1) := dgX9_offBy_1.1
theorem dX9_offBy_27 : decode cX9_offBy 27 = .ok (.iaload, 1) := dgX9_offBy_1.2.1
theorem dX9_offBy_28 : decode cX9_offBy 28 = .ok (.istore 6, 2) := dgX9_offBy_1.2.2.1
theorem dX9_offBy_30 : decode cX9_offBy 30 = .ok (.iload 6, 2) := dgX9_offBy_1.2.2.2.1
theorem dX9_offBy_32 : decode cX9_offBy 32 = .ok (.i2l, 1) := dgX9_offBy_1.2.2.2.2.1
theorem dX9_offBy_33 : decode cX9_offBy 33 = .ok (.iload 5, 2) := dgX9_offBy_1.2.2.2.2.2.1
theorem dX9_offBy_35 : decode cX9_offBy 35 = .ok (.bipush 6, 2) := dgX9_offBy_1.2.2.2.2.2.2.1
theorem dX9_offBy_37 : decode cX9_offBy 37 = .ok (.if_icmp .ge 17, 3) := dgX9_offBy_1.2.2.2.2.2.2.2.1
theorem dX9_offBy_40 : decode cX9_offBy 40 = .ok (.aload_n 0, 1) := dgX9_offBy_1.2.2.2.2.2.2.2.2.1
theorem dX9_offBy_41 : decode cX9_offBy 41 = .ok (.bipush 6, 2) := dgX9_offBy_1.2.2.2.2.2.2.2.2.2.1
theorem dX9_offBy_43 : decode cX9_offBy 43 = .ok (.iload_n 2, 1) := dgX9_offBy_1.2.2.2.2.2.2.2.2.2.2.1
theorem dX9_offBy_44 : decode cX9_offBy 44 = .ok (.imul, 1) := dgX9_offBy_1.2.2.2.2.2.2.2.2.2.2.2.1
theorem dX9_offBy_45 : decode cX9_offBy 45 = .ok (.iload 5, 2) := dgX9_offBy_1.2.2.2.2.2.2.2.2.2.2.2.2.1
theorem dX9_offBy_47 : decode cX9_offBy 47 = .ok (.iadd, 1) := dgX9_offBy_1.2.2.2.2.2.2.2.2.2.2.2.2.2.1
theorem dX9_offBy_48 : decode cX9_offBy 48 = .ok (.invokevirtual 203, 3) := dgX9_offBy_1.2.2.2.2.2.2.2.2.2.2.2.2.2.2.1
theorem dX9_offBy_51 : decode cX9_offBy 51 = .ok (.goto 4, 3) := dgX9_offBy_1.2.2.2.2.2.2.2.2.2.2.2.2.2.2.2
theorem dgX9_offBy_2 : decode cX9_offBy 54 = .ok (.iconst 0, 1) ∧ decode cX9_offBy 55 = .ok (.i2l, 1) ∧ decode cX9_offBy 56 = .ok (.lsub, 1) ∧ decode cX9_offBy 57 = .ok (.lstore 7, 2) ∧ decode cX9_offBy 59 = .ok (.lload_n 3, 1) ∧ decode cX9_offBy 60 = .ok (.iload 6, 2) ∧ decode cX9_offBy 62 = .ok (.ldc 85, 2) ∧ decode cX9_offBy 64 = .ok (.if_icmp .ne 7, 3) ∧ decode cX9_offBy 67 = .ok (.lconst 0, 1) ∧ decode cX9_offBy 68 = .ok (.goto 18, 3) ∧ decode cX9_offBy 71 = .ok (.lload 7, 2) ∧ decode cX9_offBy 73 = .ok (.lconst 0, 1) ∧ decode cX9_offBy 74 = .ok (.lcmp, 1) ∧ decode cX9_offBy 75 = .ok (.ifCond .ge 9, 3) ∧ decode cX9_offBy 78 = .ok (.lload 7, 2) ∧ decode cX9_offBy 80 = .ok (.lneg, 1) := by decide +kernel
theorem dX9_offBy_54 : decode cX9_offBy 54 = .ok (.iconst 0, 1) := dgX9_offBy_2.1
theorem dX9_offBy_55 : decode cX9_offBy 55 = .ok (.i2l, 1) := dgX9_offBy_2.2.1
theorem dX9_offBy_56 : decode cX9_offBy 56 = .ok (.lsub, 1) := dgX9_offBy_2.2.2.1
theorem dX9_offBy_57 : decode cX9_offBy 57 = .ok (.lstore 7, 2) := dgX9_offBy_2.2.2.2.1
theorem dX9_offBy_59 : decode cX9_offBy 59 = .ok (.lload_n 3, 1) := dgX9_offBy_2.2.2.2.2.1
theorem dX9_offBy_60 : decode cX9_offBy 60 = .ok (.iload 6, 2) := dgX9_offBy_2.2.2.2.2.2.1
theorem dX9_offBy_62 : decode cX9_offBy 62 = .ok (.ldc 85, 2) := dgX9_offBy_2.2.2.2.2.2.2.1
theorem dX9_offBy_64 : decode cX9_offBy 64 = .ok (.if_icmp .ne 7, 3) := dgX9_offBy_2.2.2.2.2.2.2.2.1
theorem dX9_offBy_67 : decode cX9_offBy 67 = .ok (.lconst 0, 1) := dgX9_offBy_2.2.2.2.2.2.2.2.2.1
theorem dX9_offBy_68 : decode cX9_offBy 68 = .ok (.goto 18, 3) := dgX9_offBy_2.2.2.2.2.2.2.2.2.2.1
theorem dX9_offBy_71 : decode cX9_offBy 71 = .ok (.lload 7, 2) := dgX9_offBy_2.2.2.2.2.2.2.2.2.2.2.1
theorem dX9_offBy_73 : decode cX9_offBy 73 = .ok (.lconst 0, 1) := dgX9_offBy_2.2.2.2.2.2.2.2.2.2.2.2.1
theorem dX9_offBy_74 : decode cX9_offBy 74 = .ok (.lcmp, 1) := dgX9_offBy_2.2.2.2.2.2.2.2.2.2.2.2.2.1
theorem dX9_offBy_75 : decode cX9_offBy 75 = .ok (.ifCond .ge 9, 3) := dgX9_offBy_2.2.2.2.2.2.2.2.2.2.2.2.2.2.1
theorem dX9_offBy_78 : decode cX9_offBy 78 = .ok (.lload 7, 2) := dgX9_offBy_2.2.2.2.2.2.2.2.2.2.2.2.2.2.2.1
theorem dX9_offBy_80 : decode cX9_offBy 80 = .ok (.lneg, 1) := dgX9_offBy_2.2.2.2.2.2.2.2.2.2.2.2.2.2.2.2
theorem dgX9_offBy_3 : decode cX9_offBy 81 = .ok (.goto 5, 3) ∧ decode cX9_offBy 84 = .ok (.lload 7, 2) ∧ decode cX9_offBy 86 = .ok (.ladd, 1) ∧ decode cX9_offBy 87 = .ok (.lstore_n 3, 1) ∧ decode cX9_offBy 88 = .ok (.iinc 5 1, 3) ∧ decode cX9_offBy 91 = .ok (.goto (-86), 3) ∧ decode cX9_offBy 94 = .ok (.lload_n 3, 1) ∧ decode cX9_offBy 95 = .ok (.lreturn, 1) := by decide +kernel
theorem dX9_offBy_81 : decode cX9_offBy 81 = .ok (.goto 5, 3) := dgX9_offBy_3.1
theorem dX9_offBy_84 : decode cX9_offBy 84 = .ok (.lload 7, 2) := dgX9_offBy_3.2.1
theorem dX9_offBy_86 : decode cX9_offBy 86 = .ok (.ladd, 1) := dgX9_offBy_3.2.2.1
theorem dX9_offBy_87 : decode cX9_offBy 87 = .ok (.lstore_n 3, 1) := dgX9_offBy_3.2.2.2.1
theorem dX9_offBy_88 : decode cX9_offBy 88 = .ok (.iinc 5 1, 3) := dgX9_offBy_3.2.2.2.2.1
theorem dX9_offBy_91 : decode cX9_offBy 91 = .ok (.goto (-86), 3) := dgX9_offBy_3.2.2.2.2.2.1
theorem dX9_offBy_94 : decode cX9_offBy 94 = .ok (.lload_n 3, 1) := dgX9_offBy_3.2.2.2.2.2.2.1
theorem dX9_offBy_95 : decode cX9_offBy 95 = .ok (.lreturn, 1) := dgX9_offBy_3.2.2.2.2.2.2.2
abbrev pX9_offBy : List Nat := [0, 5, 54, 55, 71, 84, 86, 94]
def bX9_offBy_0 (cal : ab_F) : ab_K := o_push (.long 0) <| o_lstore 3 <| o_push (.int 0) <| o_istore 5 <| o_goto 1
def bX9_offBy_1 (cal : ab_F) : ab_K := o_iload 5 <| o_aload 0 <| o_getf 8 27 <| o_iload 1 <| o_iald 0 <| o_cmp (fun x y => decide (y ≤ x)) 7 <| o_aload 0 <| o_getf 8 28 <| o_push (.int 24) <| o_iload 1 <| o_bin (fun x y => x * y) <| o_iload 5 <| o_bin (fun x y => x + y) <| o_iald 0 <| o_istore 6 <| o_iload 6 <| o_i2l <| o_iload 5 <| o_push (.int 6) <| o_cmp (fun x y => decide (y ≤ x)) 2 <| o_aload 0 <| o_push (.int 6) <| o_iload 2 <| o_bin (fun x y => x * y) <| o_iload 5 <| o_bin (fun x y => x + y) <| o_callV cal 182 1 8 <| o_goto 3
def bX9_offBy_2 (cal : ab_F) : ab_K := o_push (.int 0) <| o_goto 3
def bX9_offBy_3 (cal : ab_F) : ab_K := o_i2l <| o_lbin (fun x y => x - y) <| o_lstore 7 <| o_lload 3 <| o_iload 6 <| o_push (.int (-1000000005)) <| o_cmp (fun x y => decide (¬ x = y)) 4 <| o_push (.long 0) <| o_goto 6
def bX9_offBy_4 (cal : ab_F) : ab_K := o_lload 7 <| o_push (.long 0) <| o_lcmp <| o_if (fun x => decide (0 ≤ x)) 5 <| o_lload 7 <| o_lneg <| o_goto 6
def bX9_offBy_5 (cal : ab_F) : ab_K := o_lload 7 <| o_goto 6
def bX9_offBy_6 (cal : ab_F) : ab_K := o_lbin (fun x y => x + y) <| o_lstore 3 <| o_iinc 5 1 <| o_goto 1
def bX9_offBy_7 (cal : ab_F) : ab_K := o_lload 3 <| o_ret (some .long)
def bX9_offBy (cal : ab_F) : List ab_K := [bX9_offBy_0 cal, bX9_offBy_1 cal, bX9_offBy_2 cal, bX9_offBy_3 cal, bX9_offBy_4 cal, bX9_offBy_5 cal, bX9_offBy_6 cal, bX9_offBy_7 cal]
set_option maxRecDepth 100000 in
theorem sX9_offBy_0 {G : ab_G} {xs : List Int32} {d : Nat} {cal : ab_F} (hcs : ab_CS G (ab_Z G xs) ab_Mf cal d) : ab_Sd G (ab_Z G xs) (d + 1) (ab_mY mX9_offBy pX9_offBy) 0 (bX9_offBy_0 cal) :=
  sn_lconst dX9_offBy_0 rfl <| sn_lstore_n dX9_offBy_1 rfl (by decide) <| sn_iconst dX9_offBy_2 rfl <| sn_istore dX9_offBy_3 (by decide) <| sn_next rfl
set_option maxRecDepth 100000 in
theorem sX9_offBy_1 {G : ab_G} {xs : List Int32} {d : Nat} {cal : ab_F} (hcs : ab_CS G (ab_Z G xs) ab_Mf cal d) : ab_Sd G (ab_Z G xs) (d + 1) (ab_mY mX9_offBy pX9_offBy) 5 (bX9_offBy_1 cal) :=
  sn_iload dX9_offBy_5 <| sn_aload_n dX9_offBy_7 rfl <| sn_getf dX9_offBy_8 rfl hinX9 (by decide) w_1018 <| sn_iload_n dX9_offBy_11 rfl <| sn_iald dX9_offBy_12 rfl <| sn_cmp_ge (tg := 94) dX9_offBy_13 rfl rfl <| sn_aload_n dX9_offBy_16 rfl <| sn_getf dX9_offBy_17 rfl hinX9 (by decide) w_1019 <| sn_bipush dX9_offBy_20 rfl <| sn_iload_n dX9_offBy_22 rfl <| sn_imul dX9_offBy_23 <| sn_iload dX9_offBy_24 <| sn_iadd dX9_offBy_26 <| sn_iald dX9_offBy_27 rfl <| sn_istore dX9_offBy_28 (by decide) <| sn_iload dX9_offBy_30 <| sn_i2l dX9_offBy_32 <| sn_iload dX9_offBy_33 <| sn_bipush dX9_offBy_35 rfl <| sn_cmp_ge (tg := 54) dX9_offBy_37 rfl rfl <| sn_aload_n dX9_offBy_40 rfl <| sn_bipush dX9_offBy_41 rfl <| sn_iload_n dX9_offBy_43 rfl <| sn_imul dX9_offBy_44 <| sn_iload dX9_offBy_45 <| sn_iadd dX9_offBy_47 <| sq_callV mt_182 hcs dX9_offBy_48 rfl w_1337 w_1339 w_43 w_63 w_1340 hy_182 hm_182 <| sn_goto (tg := 55) dX9_offBy_51 rfl rfl
set_option maxRecDepth 100000 in
theorem sX9_offBy_2 {G : ab_G} {xs : List Int32} {d : Nat} {cal : ab_F} (hcs : ab_CS G (ab_Z G xs) ab_Mf cal d) : ab_Sd G (ab_Z G xs) (d + 1) (ab_mY mX9_offBy pX9_offBy) 54 (bX9_offBy_2 cal) :=
  sn_iconst dX9_offBy_54 rfl <| sn_next rfl
set_option maxRecDepth 100000 in
theorem sX9_offBy_3 {G : ab_G} {xs : List Int32} {d : Nat} {cal : ab_F} (hcs : ab_CS G (ab_Z G xs) ab_Mf cal d) : ab_Sd G (ab_Z G xs) (d + 1) (ab_mY mX9_offBy pX9_offBy) 55 (bX9_offBy_3 cal) :=
  sn_i2l dX9_offBy_55 <| sn_lsub dX9_offBy_56 <| sn_lstore dX9_offBy_57 (by decide) <| sn_lload_n dX9_offBy_59 rfl <| sn_iload dX9_offBy_60 <| sn_ldc dX9_offBy_62 w_1260 <| sn_cmp_ne (tg := 71) dX9_offBy_64 rfl rfl <| sn_lconst dX9_offBy_67 rfl <| sn_goto (tg := 86) dX9_offBy_68 rfl rfl
set_option maxRecDepth 100000 in
theorem sX9_offBy_4 {G : ab_G} {xs : List Int32} {d : Nat} {cal : ab_F} (hcs : ab_CS G (ab_Z G xs) ab_Mf cal d) : ab_Sd G (ab_Z G xs) (d + 1) (ab_mY mX9_offBy pX9_offBy) 71 (bX9_offBy_4 cal) :=
  sn_lload dX9_offBy_71 <| sn_lconst dX9_offBy_73 rfl <| sn_lcmp dX9_offBy_74 <| sn_if_ge (tg := 84) dX9_offBy_75 rfl rfl <| sn_lload dX9_offBy_78 <| sn_lneg dX9_offBy_80 <| sn_goto (tg := 86) dX9_offBy_81 rfl rfl
set_option maxRecDepth 100000 in
theorem sX9_offBy_5 {G : ab_G} {xs : List Int32} {d : Nat} {cal : ab_F} (hcs : ab_CS G (ab_Z G xs) ab_Mf cal d) : ab_Sd G (ab_Z G xs) (d + 1) (ab_mY mX9_offBy pX9_offBy) 84 (bX9_offBy_5 cal) :=
  sn_lload dX9_offBy_84 <| sn_next rfl
set_option maxRecDepth 100000 in
theorem sX9_offBy_6 {G : ab_G} {xs : List Int32} {d : Nat} {cal : ab_F} (hcs : ab_CS G (ab_Z G xs) ab_Mf cal d) : ab_Sd G (ab_Z G xs) (d + 1) (ab_mY mX9_offBy pX9_offBy) 86 (bX9_offBy_6 cal) :=
  sn_ladd dX9_offBy_86 <| sn_lstore_n dX9_offBy_87 rfl (by decide) <| sn_iinc dX9_offBy_88 rfl (by decide) <| sn_goto (tg := 5) dX9_offBy_91 rfl rfl
set_option maxRecDepth 100000 in
theorem sX9_offBy_7 {G : ab_G} {xs : List Int32} {d : Nat} {cal : ab_F} (hcs : ab_CS G (ab_Z G xs) ab_Mf cal d) : ab_Sd G (ab_Z G xs) (d + 1) (ab_mY mX9_offBy pX9_offBy) 94 (bX9_offBy_7 cal) :=
  sn_lload_n dX9_offBy_94 rfl <| sn_ret dX9_offBy_95 ab_ri_long
theorem sX9_offBy {G : ab_G} {xs : List Int32} {d : Nat} {cal : ab_F} (hcs : ab_CS G (ab_Z G xs) ab_Mf cal d) : ab_BS G (ab_Z G xs) (d + 1) (ab_mY mX9_offBy pX9_offBy) pX9_offBy (bX9_offBy cal) := ⟨sX9_offBy_0 hcs, sX9_offBy_1 hcs, sX9_offBy_2 hcs, sX9_offBy_3 hcs, sX9_offBy_4 hcs, sX9_offBy_5 hcs, sX9_offBy_6 hcs, sX9_offBy_7 hcs, trivial⟩
theorem dgX9_seen_0 : decode cX9_seen 0 = .ok (.iload_n 1, 1) ∧ decode cX9_seen 1 = .ok (.invokestatic 206, 3) ∧ decode cX9_seen 4 = .ok (.ifCond .eq 12, 3) ∧ decode cX9_seen 7 = .ok (.iload_n 2, 1) ∧ decode cX9_seen 8 = .ok (.iconst 0, 1) ∧ decode cX9_seen 9 = .ok (.iconst 1, 1) ∧ decode cX9_seen 10 = .ok (.invokestatic 86, 3) ∧ decode cX9_seen 13 = .ok (.ifCond .ne 6, 3) ∧ decode cX9_seen 16 = .ok (.ldc 90, 2) ∧ decode cX9_seen 18 = .ok (.ireturn, 1) ∧ decode cX9_seen 19 = .ok (.aload_n 0, 1) ∧ decode cX9_seen 20 = .ok (.getfield 58, 3) ∧ decode cX9_seen 23 = .ok (.iload_n 1, 1) ∧ decode cX9_seen 24 = .ok (.iaload, 1) ∧ decode cX9_seen 25 = .ok (.ifCond .ge 6, 3) ∧ decode cX9_seen 28 = .ok (.ldc 209, 2) := by decide +kernel
theorem dX9_seen_0 : decode cX9_seen 0 = .ok (.iload_n 1, 1) := dgX9_seen_0.1
theorem dX9_seen_1 : decode cX9_seen 1 = .ok (.invokestatic 206, 3) := dgX9_seen_0.2.1
theorem dX9_seen_4 : decode cX9_seen 4 = .ok (.ifCond .eq 12, 3) := dgX9_seen_0.2.2.1
theorem dX9_seen_7 : decode cX9_seen 7 = .ok (.iload_n 2, 1) := dgX9_seen_0.2.2.2.1
theorem dX9_seen_8 : decode cX9_seen 8 = .ok (.iconst 0, 1) := dgX9_seen_0.2.2.2.2.1
theorem dX9_seen_9 : decode cX9_seen 9 = .ok (.iconst 1, 1) := dgX9_seen_0.2.2.2.2.2.1
theorem dX9_seen_10 : decode cX9_seen 10 = .ok (.invokestatic 86, 3) := dgX9_seen_0.2.2.2.2.2.2.1
theorem dX9_seen_13 : decode cX9_seen 13 = .ok (.ifCond .ne 6, 3) := dgX9_seen_0.2.2.2.2.2.2.2.1
theorem dX9_seen_16 : decode cX9_seen 16 = .ok (.ldc 90, 2) := dgX9_seen_0.2.2.2.2.2.2.2.2.1
theorem dX9_seen_18 : decode cX9_seen 18 = .ok (.ireturn, 1) := dgX9_seen_0.2.2.2.2.2.2.2.2.2.1
theorem dX9_seen_19 : decode cX9_seen 19 = .ok (.aload_n 0, 1) := dgX9_seen_0.2.2.2.2.2.2.2.2.2.2.1
theorem dX9_seen_20 : decode cX9_seen 20 = .ok (.getfield 58, 3) := dgX9_seen_0.2.2.2.2.2.2.2.2.2.2.2.1
theorem dX9_seen_23 : decode cX9_seen 23 = .ok (.iload_n 1, 1) := dgX9_seen_0.2.2.2.2.2.2.2.2.2.2.2.2.1
theorem dX9_seen_24 : decode cX9_seen 24 = .ok (.iaload, 1) := dgX9_seen_0.2.2.2.2.2.2.2.2.2.2.2.2.2.1
theorem dX9_seen_25 : decode cX9_seen 25 = .ok (.ifCond .ge 6, 3) := dgX9_seen_0.2.2.2.2.2.2.2.2.2.2.2.2.2.2.1
theorem dX9_seen_28 : decode cX9_seen 28 = .ok (.ldc 209, 2) := dgX9_seen_0.2.2.2.2.2.2.2.2.2.2.2.2.2.2.2
theorem dgX9_seen_1 : decode cX9_seen 30 = .ok (.ireturn, 1) ∧ decode cX9_seen 31 = .ok (.iconst 0, 1) ∧ decode cX9_seen 32 = .ok (.istore_n 3, 1) ∧ decode cX9_seen 33 = .ok (.aload_n 0, 1) ∧ decode cX9_seen 34 = .ok (.iload_n 1, 1) ∧ decode cX9_seen 35 = .ok (.iconst 0, 1) ∧ decode cX9_seen 36 = .ok (.invokevirtual 210, 3) ∧ decode cX9_seen 39 = .ok (.lstore 4, 2) ∧ decode cX9_seen 41 = .ok (.iconst 1, 1) ∧ decode cX9_seen 42 = .ok (.istore 6, 2) ∧ decode cX9_seen 44 = .ok (.iload 6, 2) ∧ decode cX9_seen 46 = .ok (.iconst 4, 1) ∧ decode cX9_seen 47 = .ok (.if_icmp .ge 50, 3) ∧ decode cX9_seen 50 = .ok (.aload_n 0, 1) ∧ decode cX9_seen 51 = .ok (.iload_n 1, 1) ∧ decode cX9_seen 52 = .ok (.iload 6, 2) := by decide +kernel
theorem dX9_seen_30 : decode cX9_seen 30 = .ok (.ireturn, 1) := dgX9_seen_1.1
theorem dX9_seen_31 : decode cX9_seen 31 = .ok (.iconst 0, 1) := dgX9_seen_1.2.1
theorem dX9_seen_32 : decode cX9_seen 32 = .ok (.istore_n 3, 1) := dgX9_seen_1.2.2.1
theorem dX9_seen_33 : decode cX9_seen 33 = .ok (.aload_n 0, 1) := dgX9_seen_1.2.2.2.1
theorem dX9_seen_34 : decode cX9_seen 34 = .ok (.iload_n 1, 1) := dgX9_seen_1.2.2.2.2.1
theorem dX9_seen_35 : decode cX9_seen 35 = .ok (.iconst 0, 1) := dgX9_seen_1.2.2.2.2.2.1
theorem dX9_seen_36 : decode cX9_seen 36 = .ok (.invokevirtual 210, 3) := dgX9_seen_1.2.2.2.2.2.2.1
theorem dX9_seen_39 : decode cX9_seen 39 = .ok (.lstore 4, 2) := dgX9_seen_1.2.2.2.2.2.2.2.1
theorem dX9_seen_41 : decode cX9_seen 41 = .ok (.iconst 1, 1) := dgX9_seen_1.2.2.2.2.2.2.2.2.1
theorem dX9_seen_42 : decode cX9_seen 42 = .ok (.istore 6, 2) := dgX9_seen_1.2.2.2.2.2.2.2.2.2.1
theorem dX9_seen_44 : decode cX9_seen 44 = .ok (.iload 6, 2) := dgX9_seen_1.2.2.2.2.2.2.2.2.2.2.1
theorem dX9_seen_46 : decode cX9_seen 46 = .ok (.iconst 4, 1) := dgX9_seen_1.2.2.2.2.2.2.2.2.2.2.2.1
theorem dX9_seen_47 : decode cX9_seen 47 = .ok (.if_icmp .ge 50, 3) := dgX9_seen_1.2.2.2.2.2.2.2.2.2.2.2.2.1
theorem dX9_seen_50 : decode cX9_seen 50 = .ok (.aload_n 0, 1) := dgX9_seen_1.2.2.2.2.2.2.2.2.2.2.2.2.2.1
theorem dX9_seen_51 : decode cX9_seen 51 = .ok (.iload_n 1, 1) := dgX9_seen_1.2.2.2.2.2.2.2.2.2.2.2.2.2.2.1
theorem dX9_seen_52 : decode cX9_seen 52 = .ok (.iload 6, 2) := dgX9_seen_1.2.2.2.2.2.2.2.2.2.2.2.2.2.2.2
theorem dgX9_seen_2 : decode cX9_seen 54 = .ok (.invokevirtual 210, 3) ∧ decode cX9_seen 57 = .ok (.lstore 7, 2) ∧ decode cX9_seen 59 = .ok (.lload 7, 2) ∧ decode cX9_seen 61 = .ok (.lload 4, 2) ∧ decode cX9_seen 63 = .ok (.lcmp, 1) ∧ decode cX9_seen 64 = .ok (.ifCond .ge 8, 3) ∧ decode cX9_seen 67 = .ok (.iload 6, 2) ∧ decode cX9_seen 69 = .ok (.goto 4, 3) ∧ decode cX9_seen 72 = .ok (.iload_n 3, 1) ∧ decode cX9_seen 73 = .ok (.istore_n 3, 1) ∧ decode cX9_seen 74 = .ok (.lload 7, 2) ∧ decode cX9_seen 76 = .ok (.lload 4, 2) ∧ decode cX9_seen 78 = .ok (.lcmp, 1) ∧ decode cX9_seen 79 = .ok (.ifCond .ge 8, 3) ∧ decode cX9_seen 82 = .ok (.lload 7, 2) ∧ decode cX9_seen 84 = .ok (.goto 5, 3) := by decide +kernel
theorem dX9_seen_54 : decode cX9_seen 54 = .ok (.invokevirtual 210, 3) := dgX9_seen_2.1
theorem dX9_seen_57 : decode cX9_seen 57 = .ok (.lstore 7, 2) := dgX9_seen_2.2.1
theorem dX9_seen_59 : decode cX9_seen 59 = .ok (.lload 7, 2) := dgX9_seen_2.2.2.1
theorem dX9_seen_61 : decode cX9_seen 61 = .ok (.lload 4, 2) := dgX9_seen_2.2.2.2.1
theorem dX9_seen_63 : decode cX9_seen 63 = .ok (.lcmp, 1) := dgX9_seen_2.2.2.2.2.1
theorem dX9_seen_64 : decode cX9_seen 64 = .ok (.ifCond .ge 8, 3) := dgX9_seen_2.2.2.2.2.2.1
theorem dX9_seen_67 : decode cX9_seen 67 = .ok (.iload 6, 2) := dgX9_seen_2.2.2.2.2.2.2.1
theorem dX9_seen_69 : decode cX9_seen 69 = .ok (.goto 4, 3) := dgX9_seen_2.2.2.2.2.2.2.2.1
theorem dX9_seen_72 : decode cX9_seen 72 = .ok (.iload_n 3, 1) := dgX9_seen_2.2.2.2.2.2.2.2.2.1
theorem dX9_seen_73 : decode cX9_seen 73 = .ok (.istore_n 3, 1) := dgX9_seen_2.2.2.2.2.2.2.2.2.2.1
theorem dX9_seen_74 : decode cX9_seen 74 = .ok (.lload 7, 2) := dgX9_seen_2.2.2.2.2.2.2.2.2.2.2.1
theorem dX9_seen_76 : decode cX9_seen 76 = .ok (.lload 4, 2) := dgX9_seen_2.2.2.2.2.2.2.2.2.2.2.2.1
theorem dX9_seen_78 : decode cX9_seen 78 = .ok (.lcmp, 1) := dgX9_seen_2.2.2.2.2.2.2.2.2.2.2.2.2.1
theorem dX9_seen_79 : decode cX9_seen 79 = .ok (.ifCond .ge 8, 3) := dgX9_seen_2.2.2.2.2.2.2.2.2.2.2.2.2.2.1
theorem dX9_seen_82 : decode cX9_seen 82 = .ok (.lload 7, 2) := dgX9_seen_2.2.2.2.2.2.2.2.2.2.2.2.2.2.2.1
theorem dX9_seen_84 : decode cX9_seen 84 = .ok (.goto 5, 3) := dgX9_seen_2.2.2.2.2.2.2.2.2.2.2.2.2.2.2.2
theorem dgX9_seen_3 : decode cX9_seen 87 = .ok (.lload 4, 2) ∧ decode cX9_seen 89 = .ok (.lstore 4, 2) ∧ decode cX9_seen 91 = .ok (.iinc 6 1, 3) ∧ decode cX9_seen 94 = .ok (.goto (-50), 3) ∧ decode cX9_seen 97 = .ok (.iload_n 2, 1) ∧ decode cX9_seen 98 = .ok (.ifCond .ne 7, 3) ∧ decode cX9_seen 101 = .ok (.iload_n 3, 1) ∧ decode cX9_seen 102 = .ok (.goto 6, 3) ∧ decode cX9_seen 105 = .ok (.lload 4, 2) ∧ decode cX9_seen 107 = .ok (.l2i, 1) ∧ decode cX9_seen 108 = .ok (.ireturn, 1) := by decide +kernel
theorem dX9_seen_87 : decode cX9_seen 87 = .ok (.lload 4, 2) := dgX9_seen_3.1
theorem dX9_seen_89 : decode cX9_seen 89 = .ok (.lstore 4, 2) := dgX9_seen_3.2.1
theorem dX9_seen_91 : decode cX9_seen 91 = .ok (.iinc 6 1, 3) := dgX9_seen_3.2.2.1
theorem dX9_seen_94 : decode cX9_seen 94 = .ok (.goto (-50), 3) := dgX9_seen_3.2.2.2.1
theorem dX9_seen_97 : decode cX9_seen 97 = .ok (.iload_n 2, 1) := dgX9_seen_3.2.2.2.2.1
theorem dX9_seen_98 : decode cX9_seen 98 = .ok (.ifCond .ne 7, 3) := dgX9_seen_3.2.2.2.2.2.1
theorem dX9_seen_101 : decode cX9_seen 101 = .ok (.iload_n 3, 1) := dgX9_seen_3.2.2.2.2.2.2.1
theorem dX9_seen_102 : decode cX9_seen 102 = .ok (.goto 6, 3) := dgX9_seen_3.2.2.2.2.2.2.2.1
theorem dX9_seen_105 : decode cX9_seen 105 = .ok (.lload 4, 2) := dgX9_seen_3.2.2.2.2.2.2.2.2.1
theorem dX9_seen_107 : decode cX9_seen 107 = .ok (.l2i, 1) := dgX9_seen_3.2.2.2.2.2.2.2.2.2.1
theorem dX9_seen_108 : decode cX9_seen 108 = .ok (.ireturn, 1) := dgX9_seen_3.2.2.2.2.2.2.2.2.2.2
abbrev pX9_seen : List Nat := [0, 16, 19, 31, 44, 72, 73, 87, 89, 97, 105, 108]
def bX9_seen_0 (cal : ab_F) : ab_K := o_iload 1 <| o_callS cal 206 1 <| o_if (fun x => decide (x = 0)) 1 <| o_iload 2 <| o_push (.int 0) <| o_push (.int 1) <| o_callS cal 128 3 <| o_if (fun x => decide (¬ x = 0)) 2 <| o_goto 1
def bX9_seen_1 (cal : ab_F) : ab_K := o_push (.int (-1000000001)) <| o_ret (some .int)
def bX9_seen_2 (cal : ab_F) : ab_K := o_aload 0 <| o_getf 8 26 <| o_iload 1 <| o_iald 0 <| o_if (fun x => decide (0 ≤ x)) 3 <| o_push (.int (-1000000011)) <| o_ret (some .int)
def bX9_seen_3 (cal : ab_F) : ab_K := o_push (.int 0) <| o_istore 3 <| o_aload 0 <| o_iload 1 <| o_push (.int 0) <| o_callV cal 183 2 8 <| o_lstore 4 <| o_push (.int 1) <| o_istore 6 <| o_goto 4
def bX9_seen_4 (cal : ab_F) : ab_K := o_iload 6 <| o_push (.int 4) <| o_cmp (fun x y => decide (y ≤ x)) 9 <| o_aload 0 <| o_iload 1 <| o_iload 6 <| o_callV cal 183 2 8 <| o_lstore 7 <| o_lload 7 <| o_lload 4 <| o_lcmp <| o_if (fun x => decide (0 ≤ x)) 5 <| o_iload 6 <| o_goto 6
def bX9_seen_5 (cal : ab_F) : ab_K := o_iload 3 <| o_goto 6
def bX9_seen_6 (cal : ab_F) : ab_K := o_istore 3 <| o_lload 7 <| o_lload 4 <| o_lcmp <| o_if (fun x => decide (0 ≤ x)) 7 <| o_lload 7 <| o_goto 8
def bX9_seen_7 (cal : ab_F) : ab_K := o_lload 4 <| o_goto 8
def bX9_seen_8 (cal : ab_F) : ab_K := o_lstore 4 <| o_iinc 6 1 <| o_goto 4
def bX9_seen_9 (cal : ab_F) : ab_K := o_iload 2 <| o_if (fun x => decide (¬ x = 0)) 10 <| o_iload 3 <| o_goto 11
def bX9_seen_10 (cal : ab_F) : ab_K := o_lload 4 <| o_l2i <| o_goto 11
def bX9_seen_11 (cal : ab_F) : ab_K := o_ret (some .int)
def bX9_seen (cal : ab_F) : List ab_K := [bX9_seen_0 cal, bX9_seen_1 cal, bX9_seen_2 cal, bX9_seen_3 cal, bX9_seen_4 cal, bX9_seen_5 cal, bX9_seen_6 cal, bX9_seen_7 cal, bX9_seen_8 cal, bX9_seen_9 cal, bX9_seen_10 cal, bX9_seen_11 cal]
set_option maxRecDepth 100000 in
theorem sX9_seen_0 {G : ab_G} {xs : List Int32} {d : Nat} {cal : ab_F} (hcs : ab_CS G (ab_Z G xs) ab_Mf cal d) : ab_Sd G (ab_Z G xs) (d + 1) (ab_mY mX9_seen pX9_seen) 0 (bX9_seen_0 cal) :=
  sn_iload_n dX9_seen_0 rfl <| sq_callS mt_206 hcs dX9_seen_1 w_1329 w_1330 w_63 w_1331 hy_206 hm_206 <| sn_if_eq (tg := 16) dX9_seen_4 rfl rfl <| sn_iload_n dX9_seen_7 rfl <| sn_iconst dX9_seen_8 rfl <| sn_iconst dX9_seen_9 rfl <| sq_callS mt_128 hcs dX9_seen_10 w_1106 w_1107 w_63 w_1108 hy_128 hm_128 <| sn_if_ne (tg := 19) dX9_seen_13 rfl rfl <| sn_next rfl
set_option maxRecDepth 100000 in
theorem sX9_seen_1 {G : ab_G} {xs : List Int32} {d : Nat} {cal : ab_F} (hcs : ab_CS G (ab_Z G xs) ab_Mf cal d) : ab_Sd G (ab_Z G xs) (d + 1) (ab_mY mX9_seen pX9_seen) 16 (bX9_seen_1 cal) :=
  sn_ldc dX9_seen_16 w_1109 <| sn_ret dX9_seen_18 ab_ri_int
set_option maxRecDepth 100000 in
theorem sX9_seen_2 {G : ab_G} {xs : List Int32} {d : Nat} {cal : ab_F} (hcs : ab_CS G (ab_Z G xs) ab_Mf cal d) : ab_Sd G (ab_Z G xs) (d + 1) (ab_mY mX9_seen pX9_seen) 19 (bX9_seen_2 cal) :=
  sn_aload_n dX9_seen_19 rfl <| sn_getf dX9_seen_20 rfl hinX9 (by decide) w_1017 <| sn_iload_n dX9_seen_23 rfl <| sn_iald dX9_seen_24 rfl <| sn_if_ge (tg := 31) dX9_seen_25 rfl rfl <| sn_ldc dX9_seen_28 w_1332 <| sn_ret dX9_seen_30 ab_ri_int
set_option maxRecDepth 100000 in
theorem sX9_seen_3 {G : ab_G} {xs : List Int32} {d : Nat} {cal : ab_F} (hcs : ab_CS G (ab_Z G xs) ab_Mf cal d) : ab_Sd G (ab_Z G xs) (d + 1) (ab_mY mX9_seen pX9_seen) 31 (bX9_seen_3 cal) :=
  sn_iconst dX9_seen_31 rfl <| sn_istore_n dX9_seen_32 rfl (by decide) <| sn_aload_n dX9_seen_33 rfl <| sn_iload_n dX9_seen_34 rfl <| sn_iconst dX9_seen_35 rfl <| sq_callV mt_183 hcs dX9_seen_36 rfl w_1333 w_1335 w_42 w_63 w_1336 hy_183 hm_183 <| sn_lstore dX9_seen_39 (by decide) <| sn_iconst dX9_seen_41 rfl <| sn_istore dX9_seen_42 (by decide) <| sn_next rfl
set_option maxRecDepth 100000 in
theorem sX9_seen_4 {G : ab_G} {xs : List Int32} {d : Nat} {cal : ab_F} (hcs : ab_CS G (ab_Z G xs) ab_Mf cal d) : ab_Sd G (ab_Z G xs) (d + 1) (ab_mY mX9_seen pX9_seen) 44 (bX9_seen_4 cal) :=
  sn_iload dX9_seen_44 <| sn_iconst dX9_seen_46 rfl <| sn_cmp_ge (tg := 97) dX9_seen_47 rfl rfl <| sn_aload_n dX9_seen_50 rfl <| sn_iload_n dX9_seen_51 rfl <| sn_iload dX9_seen_52 <| sq_callV mt_183 hcs dX9_seen_54 rfl w_1333 w_1335 w_42 w_63 w_1336 hy_183 hm_183 <| sn_lstore dX9_seen_57 (by decide) <| sn_lload dX9_seen_59 <| sn_lload dX9_seen_61 <| sn_lcmp dX9_seen_63 <| sn_if_ge (tg := 72) dX9_seen_64 rfl rfl <| sn_iload dX9_seen_67 <| sn_goto (tg := 73) dX9_seen_69 rfl rfl
set_option maxRecDepth 100000 in
theorem sX9_seen_5 {G : ab_G} {xs : List Int32} {d : Nat} {cal : ab_F} (hcs : ab_CS G (ab_Z G xs) ab_Mf cal d) : ab_Sd G (ab_Z G xs) (d + 1) (ab_mY mX9_seen pX9_seen) 72 (bX9_seen_5 cal) :=
  sn_iload_n dX9_seen_72 rfl <| sn_next rfl
set_option maxRecDepth 100000 in
theorem sX9_seen_6 {G : ab_G} {xs : List Int32} {d : Nat} {cal : ab_F} (hcs : ab_CS G (ab_Z G xs) ab_Mf cal d) : ab_Sd G (ab_Z G xs) (d + 1) (ab_mY mX9_seen pX9_seen) 73 (bX9_seen_6 cal) :=
  sn_istore_n dX9_seen_73 rfl (by decide) <| sn_lload dX9_seen_74 <| sn_lload dX9_seen_76 <| sn_lcmp dX9_seen_78 <| sn_if_ge (tg := 87) dX9_seen_79 rfl rfl <| sn_lload dX9_seen_82 <| sn_goto (tg := 89) dX9_seen_84 rfl rfl
set_option maxRecDepth 100000 in
theorem sX9_seen_7 {G : ab_G} {xs : List Int32} {d : Nat} {cal : ab_F} (hcs : ab_CS G (ab_Z G xs) ab_Mf cal d) : ab_Sd G (ab_Z G xs) (d + 1) (ab_mY mX9_seen pX9_seen) 87 (bX9_seen_7 cal) :=
  sn_lload dX9_seen_87 <| sn_next rfl
set_option maxRecDepth 100000 in
theorem sX9_seen_8 {G : ab_G} {xs : List Int32} {d : Nat} {cal : ab_F} (hcs : ab_CS G (ab_Z G xs) ab_Mf cal d) : ab_Sd G (ab_Z G xs) (d + 1) (ab_mY mX9_seen pX9_seen) 89 (bX9_seen_8 cal) :=
  sn_lstore dX9_seen_89 (by decide) <| sn_iinc dX9_seen_91 rfl (by decide) <| sn_goto (tg := 44) dX9_seen_94 rfl rfl
set_option maxRecDepth 100000 in
theorem sX9_seen_9 {G : ab_G} {xs : List Int32} {d : Nat} {cal : ab_F} (hcs : ab_CS G (ab_Z G xs) ab_Mf cal d) : ab_Sd G (ab_Z G xs) (d + 1) (ab_mY mX9_seen pX9_seen) 97 (bX9_seen_9 cal) :=
  sn_iload_n dX9_seen_97 rfl <| sn_if_ne (tg := 105) dX9_seen_98 rfl rfl <| sn_iload_n dX9_seen_101 rfl <| sn_goto (tg := 108) dX9_seen_102 rfl rfl
set_option maxRecDepth 100000 in
theorem sX9_seen_10 {G : ab_G} {xs : List Int32} {d : Nat} {cal : ab_F} (hcs : ab_CS G (ab_Z G xs) ab_Mf cal d) : ab_Sd G (ab_Z G xs) (d + 1) (ab_mY mX9_seen pX9_seen) 105 (bX9_seen_10 cal) :=
  sn_lload dX9_seen_105 <| sn_l2i dX9_seen_107 <| sn_next rfl
set_option maxRecDepth 100000 in
theorem sX9_seen_11 {G : ab_G} {xs : List Int32} {d : Nat} {cal : ab_F} (hcs : ab_CS G (ab_Z G xs) ab_Mf cal d) : ab_Sd G (ab_Z G xs) (d + 1) (ab_mY mX9_seen pX9_seen) 108 (bX9_seen_11 cal) :=
  sn_ret dX9_seen_108 ab_ri_int
theorem sX9_seen {G : ab_G} {xs : List Int32} {d : Nat} {cal : ab_F} (hcs : ab_CS G (ab_Z G xs) ab_Mf cal d) : ab_BS G (ab_Z G xs) (d + 1) (ab_mY mX9_seen pX9_seen) pX9_seen (bX9_seen cal) := ⟨sX9_seen_0 hcs, sX9_seen_1 hcs, sX9_seen_2 hcs, sX9_seen_3 hcs, sX9_seen_4 hcs, sX9_seen_5 hcs, sX9_seen_6 hcs, sX9_seen_7 hcs, sX9_seen_8 hcs, sX9_seen_9 hcs, sX9_seen_10 hcs, sX9_seen_11 hcs, trivial⟩
theorem dgX9_fee_0 : decode cX9_fee 0 = .ok (.aload_n 0, 1) ∧ decode cX9_fee 1 = .ok (.iconst 1, 1) ∧ decode cX9_fee 2 = .ok (.invokevirtual 111, 3) ∧ decode cX9_fee 5 = .ok (.istore_n 1, 1) ∧ decode cX9_fee 6 = .ok (.aload_n 0, 1) ∧ decode cX9_fee 7 = .ok (.invokevirtual 165, 3) ∧ decode cX9_fee 10 = .ok (.istore_n 2, 1) ∧ decode cX9_fee 11 = .ok (.aload_n 0, 1) ∧ decode cX9_fee 12 = .ok (.getfield 55, 3) ∧ decode cX9_fee 15 = .ok (.iconst 0, 1) ∧ decode cX9_fee 16 = .ok (.iload_n 2, 1) ∧ decode cX9_fee 17 = .ok (.iastore, 1) ∧ decode cX9_fee 18 = .ok (.aload_n 0, 1) ∧ decode cX9_fee 19 = .ok (.getfield 55, 3) ∧ decode cX9_fee 22 = .ok (.iconst 1, 1) ∧ decode cX9_fee 23 = .ok (.aload_n 0, 1) := by decide +kernel
theorem dX9_fee_0 : decode cX9_fee 0 = .ok (.aload_n 0, 1) := dgX9_fee_0.1
theorem dX9_fee_1 : decode cX9_fee 1 = .ok (.iconst 1, 1) := dgX9_fee_0.2.1
theorem dX9_fee_2 : decode cX9_fee 2 = .ok (.invokevirtual 111, 3) := dgX9_fee_0.2.2.1
theorem dX9_fee_5 : decode cX9_fee 5 = .ok (.istore_n 1, 1) := dgX9_fee_0.2.2.2.1
theorem dX9_fee_6 : decode cX9_fee 6 = .ok (.aload_n 0, 1) := dgX9_fee_0.2.2.2.2.1
theorem dX9_fee_7 : decode cX9_fee 7 = .ok (.invokevirtual 165, 3) := dgX9_fee_0.2.2.2.2.2.1
theorem dX9_fee_10 : decode cX9_fee 10 = .ok (.istore_n 2, 1) := dgX9_fee_0.2.2.2.2.2.2.1
theorem dX9_fee_11 : decode cX9_fee 11 = .ok (.aload_n 0, 1) := dgX9_fee_0.2.2.2.2.2.2.2.1
theorem dX9_fee_12 : decode cX9_fee 12 = .ok (.getfield 55, 3) := dgX9_fee_0.2.2.2.2.2.2.2.2.1
theorem dX9_fee_15 : decode cX9_fee 15 = .ok (.iconst 0, 1) := dgX9_fee_0.2.2.2.2.2.2.2.2.2.1
theorem dX9_fee_16 : decode cX9_fee 16 = .ok (.iload_n 2, 1) := dgX9_fee_0.2.2.2.2.2.2.2.2.2.2.1
theorem dX9_fee_17 : decode cX9_fee 17 = .ok (.iastore, 1) := dgX9_fee_0.2.2.2.2.2.2.2.2.2.2.2.1
theorem dX9_fee_18 : decode cX9_fee 18 = .ok (.aload_n 0, 1) := dgX9_fee_0.2.2.2.2.2.2.2.2.2.2.2.2.1
theorem dX9_fee_19 : decode cX9_fee 19 = .ok (.getfield 55, 3) := dgX9_fee_0.2.2.2.2.2.2.2.2.2.2.2.2.2.1
theorem dX9_fee_22 : decode cX9_fee 22 = .ok (.iconst 1, 1) := dgX9_fee_0.2.2.2.2.2.2.2.2.2.2.2.2.2.2.1
theorem dX9_fee_23 : decode cX9_fee 23 = .ok (.aload_n 0, 1) := dgX9_fee_0.2.2.2.2.2.2.2.2.2.2.2.2.2.2.2
theorem dgX9_fee_1 : decode cX9_fee 24 = .ok (.invokevirtual 168, 3) ∧ decode cX9_fee 27 = .ok (.iastore, 1) ∧ decode cX9_fee 28 = .ok (.iload_n 1, 1) ∧ decode cX9_fee 29 = .ok (.ifCond .ge 7, 3) ∧ decode cX9_fee 32 = .ok (.iload_n 2, 1) ∧ decode cX9_fee 33 = .ok (.goto 8, 3) ∧ decode cX9_fee 36 = .ok (.aload_n 0, 1) ∧ decode cX9_fee 37 = .ok (.iload_n 1, 1) ∧ decode cX9_fee 38 = .ok (.invokevirtual 114, 3) ∧ decode cX9_fee 41 = .ok (.ireturn, 1) := by decide +kernel
theorem dX9_fee_24 : decode cX9_fee 24 = .ok (.invokevirtual 168, 3) := dgX9_fee_1.1
theorem dX9_fee_27 : decode cX9_fee 27 = .ok (.iastore, 1) := dgX9_fee_1.2.1
theorem dX9_fee_28 : decode cX9_fee 28 = .ok (.iload_n 1, 1) := dgX9_fee_1.2.2.1
theorem dX9_fee_29 : decode cX9_fee 29 = .ok (.ifCond .ge 7, 3) := dgX9_fee_1.2.2.2.1
theorem dX9_fee_32 : decode cX9_fee 32 = .ok (.iload_n 2, 1) := dgX9_fee_1.2.2.2.2.1
theorem dX9_fee_33 : decode cX9_fee 33 = .ok (.goto 8, 3) := dgX9_fee_1.2.2.2.2.2.1
theorem dX9_fee_36 : decode cX9_fee 36 = .ok (.aload_n 0, 1) := dgX9_fee_1.2.2.2.2.2.2.1
theorem dX9_fee_37 : decode cX9_fee 37 = .ok (.iload_n 1, 1) := dgX9_fee_1.2.2.2.2.2.2.2.1
theorem dX9_fee_38 : decode cX9_fee 38 = .ok (.invokevirtual 114, 3) := dgX9_fee_1.2.2.2.2.2.2.2.2.1
theorem dX9_fee_41 : decode cX9_fee 41 = .ok (.ireturn, 1) := dgX9_fee_1.2.2.2.2.2.2.2.2.2
abbrev pX9_fee : List Nat := [0, 36, 41]
def bX9_fee_0 (cal : ab_F) : ab_K := o_aload 0 <| o_push (.int 1) <| o_callV cal 202 1 8 <| o_istore 1 <| o_aload 0 <| o_callV cal 162 0 8 <| o_istore 2 <| o_aload 0 <| o_getf 8 25 <| o_push (.int 0) <| o_iload 2 <| o_iast 0 (fun x => x) <| o_aload 0 <| o_getf 8 25 <| o_push (.int 1) <| o_aload 0 <| o_callV cal 163 0 8 <| o_iast 0 (fun x => x) <| o_iload 1 <| o_if (fun x => decide (0 ≤ x)) 1 <| o_iload 2 <| o_goto 2
def bX9_fee_1 (cal : ab_F) : ab_K := o_aload 0 <| o_iload 1 <| o_callV cal 205 1 8 <| o_goto 2
def bX9_fee_2 (cal : ab_F) : ab_K := o_ret (some .int)
def bX9_fee (cal : ab_F) : List ab_K := [bX9_fee_0 cal, bX9_fee_1 cal, bX9_fee_2 cal]
set_option maxRecDepth 100000 in
theorem sX9_fee_0 {G : ab_G} {xs : List Int32} {d : Nat} {cal : ab_F} (hcs : ab_CS G (ab_Z G xs) ab_Mf cal d) : ab_Sd G (ab_Z G xs) (d + 1) (ab_mY mX9_fee pX9_fee) 0 (bX9_fee_0 cal) :=
  sn_aload_n dX9_fee_0 rfl <| sn_iconst dX9_fee_1 rfl <| sq_callV mt_202 hcs dX9_fee_2 rfl w_1154 w_1156 w_24 w_63 w_1157 hy_202 hm_202 <| sn_istore_n dX9_fee_5 rfl (by decide) <| sn_aload_n dX9_fee_6 rfl <| sq_callV mt_162 hcs dX9_fee_7 rfl w_1245 w_1247 w_33 w_63 w_1248 hy_162 hm_162 <| sn_istore_n dX9_fee_10 rfl (by decide) <| sn_aload_n dX9_fee_11 rfl <| sn_getf dX9_fee_12 rfl hinX9 (by decide) w_1016 <| sn_iconst dX9_fee_15 rfl <| sn_iload_n dX9_fee_16 rfl <| sn_iast dX9_fee_17 rfl rfl <| sn_aload_n dX9_fee_18 rfl <| sn_getf dX9_fee_19 rfl hinX9 (by decide) w_1016 <| sn_iconst dX9_fee_22 rfl <| sn_aload_n dX9_fee_23 rfl <| sq_callV mt_163 hcs dX9_fee_24 rfl w_1249 w_1251 w_34 w_63 w_1252 hy_163 hm_163 <| sn_iast dX9_fee_27 rfl rfl <| sn_iload_n dX9_fee_28 rfl <| sn_if_ge (tg := 36) dX9_fee_29 rfl rfl <| sn_iload_n dX9_fee_32 rfl <| sn_goto (tg := 41) dX9_fee_33 rfl rfl
set_option maxRecDepth 100000 in
theorem sX9_fee_1 {G : ab_G} {xs : List Int32} {d : Nat} {cal : ab_F} (hcs : ab_CS G (ab_Z G xs) ab_Mf cal d) : ab_Sd G (ab_Z G xs) (d + 1) (ab_mY mX9_fee pX9_fee) 36 (bX9_fee_1 cal) :=
  sn_aload_n dX9_fee_36 rfl <| sn_iload_n dX9_fee_37 rfl <| sq_callV mt_205 hcs dX9_fee_38 rfl w_1158 w_1160 w_25 w_63 w_1161 hy_205 hm_205 <| sn_next rfl
set_option maxRecDepth 100000 in
theorem sX9_fee_2 {G : ab_G} {xs : List Int32} {d : Nat} {cal : ab_F} (hcs : ab_CS G (ab_Z G xs) ab_Mf cal d) : ab_Sd G (ab_Z G xs) (d + 1) (ab_mY mX9_fee pX9_fee) 41 (bX9_fee_2 cal) :=
  sn_ret dX9_fee_41 ab_ri_int
theorem sX9_fee {G : ab_G} {xs : List Int32} {d : Nat} {cal : ab_F} (hcs : ab_CS G (ab_Z G xs) ab_Mf cal d) : ab_BS G (ab_Z G xs) (d + 1) (ab_mY mX9_fee pX9_fee) pX9_fee (bX9_fee cal) := ⟨sX9_fee_0 hcs, sX9_fee_1 hcs, sX9_fee_2 hcs, trivial⟩
theorem dgX9_fine_0 : decode cX9_fine 0 = .ok (.aload_n 0, 1) ∧ decode cX9_fine 1 = .ok (.iload_n 1, 1) ∧ decode cX9_fine 2 = .ok (.invokevirtual 100, 3) ∧ decode cX9_fine 5 = .ok (.ifCond .ne 6, 3) ∧ decode cX9_fine 8 = .ok (.ldc 90, 2) ∧ decode cX9_fine 10 = .ok (.ireturn, 1) ∧ decode cX9_fine 11 = .ok (.aload_n 0, 1) ∧ decode cX9_fine 12 = .ok (.iconst 2, 1) ∧ decode cX9_fine 13 = .ok (.invokevirtual 111, 3) ∧ decode cX9_fine 16 = .ok (.istore_n 2, 1) ∧ decode cX9_fine 17 = .ok (.aload_n 0, 1) ∧ decode cX9_fine 18 = .ok (.getfield 55, 3) ∧ decode cX9_fine 21 = .ok (.iconst 0, 1) ∧ decode cX9_fine 22 = .ok (.aload_n 0, 1) ∧ decode cX9_fine 23 = .ok (.iload_n 1, 1) ∧ decode cX9_fine 24 = .ok (.iconst 1, 1) := by decide +kernel
theorem dX9_fine_0 : decode cX9_fine 0 = .ok (.aload_n 0, 1) := dgX9_fine_0.1
theorem dX9_fine_1 : decode cX9_fine 1 = .ok (.iload_n 1, 1) := dgX9_fine_0.2.1
theorem dX9_fine_2 : decode cX9_fine 2 = .ok (.invokevirtual 100, 3) := dgX9_fine_0.2.2.1
theorem dX9_fine_5 : decode cX9_fine 5 = .ok (.ifCond .ne 6, 3) := dgX9_fine_0.2.2.2.1
theorem dX9_fine_8 : decode cX9_fine 8 = .ok (.ldc 90, 2) := dgX9_fine_0.2.2.2.2.1
theorem dX9_fine_10 : decode cX9_fine 10 = .ok (.ireturn, 1) := dgX9_fine_0.2.2.2.2.2.1
theorem dX9_fine_11 : decode cX9_fine 11 = .ok (.aload_n 0, 1) := dgX9_fine_0.2.2.2.2.2.2.1
theorem dX9_fine_12 : decode cX9_fine 12 = .ok (.iconst 2, 1) := dgX9_fine_0.2.2.2.2.2.2.2.1
theorem dX9_fine_13 : decode cX9_fine 13 = .ok (.invokevirtual 111, 3) := dgX9_fine_0.2.2.2.2.2.2.2.2.1
theorem dX9_fine_16 : decode cX9_fine 16 = .ok (.istore_n 2, 1) := dgX9_fine_0.2.2.2.2.2.2.2.2.2.1
theorem dX9_fine_17 : decode cX9_fine 17 = .ok (.aload_n 0, 1) := dgX9_fine_0.2.2.2.2.2.2.2.2.2.2.1
theorem dX9_fine_18 : decode cX9_fine 18 = .ok (.getfield 55, 3) := dgX9_fine_0.2.2.2.2.2.2.2.2.2.2.2.1
theorem dX9_fine_21 : decode cX9_fine 21 = .ok (.iconst 0, 1) := dgX9_fine_0.2.2.2.2.2.2.2.2.2.2.2.2.1
theorem dX9_fine_22 : decode cX9_fine 22 = .ok (.aload_n 0, 1) := dgX9_fine_0.2.2.2.2.2.2.2.2.2.2.2.2.2.1
theorem dX9_fine_23 : decode cX9_fine 23 = .ok (.iload_n 1, 1) := dgX9_fine_0.2.2.2.2.2.2.2.2.2.2.2.2.2.2.1
theorem dX9_fine_24 : decode cX9_fine 24 = .ok (.iconst 1, 1) := dgX9_fine_0.2.2.2.2.2.2.2.2.2.2.2.2.2.2.2
theorem dgX9_fine_1 : decode cX9_fine 25 = .ok (.invokevirtual 96, 3) ∧ decode cX9_fine 28 = .ok (.iastore, 1) ∧ decode cX9_fine 29 = .ok (.aload_n 0, 1) ∧ decode cX9_fine 30 = .ok (.getfield 55, 3) ∧ decode cX9_fine 33 = .ok (.iconst 1, 1) ∧ decode cX9_fine 34 = .ok (.aload_n 0, 1) ∧ decode cX9_fine 35 = .ok (.iload_n 1, 1) ∧ decode cX9_fine 36 = .ok (.iconst 2, 1) ∧ decode cX9_fine 37 = .ok (.invokevirtual 96, 3) ∧ decode cX9_fine 40 = .ok (.iastore, 1) ∧ decode cX9_fine 41 = .ok (.aload_n 0, 1) ∧ decode cX9_fine 42 = .ok (.getfield 55, 3) ∧ decode cX9_fine 45 = .ok (.iconst 2, 1) ∧ decode cX9_fine 46 = .ok (.aload_n 0, 1) ∧ decode cX9_fine 47 = .ok (.iload_n 1, 1) ∧ decode cX9_fine 48 = .ok (.iconst 4, 1) := by decide +kernel
theorem dX9_fine_25 : decode cX9_fine 25 = .ok (.invokevirtual 96, 3) := dgX9_fine_1.1
theorem dX9_fine_28 : decode cX9_fine 28 = .ok (.iastore, 1) := dgX9_fine_1.2.1
theorem dX9_fine_29 : decode cX9_fine 29 = .ok (.aload_n 0, 1) := dgX9_fine_1.2.2.1
theorem dX9_fine_30 : decode cX9_fine 30 = .ok (.getfield 55, 3) := dgX9_fine_1.2.2.2.1
theorem dX9_fine_33 : decode cX9_fine 33 = .ok (.iconst 1, 1) := dgX9_fine_1.2.2.2.2.1
theorem dX9_fine_34 : decode cX9_fine 34 = .ok (.aload_n 0, 1) := dgX9_fine_1.2.2.2.2.2.1
theorem dX9_fine_35 : decode cX9_fine 35 = .ok (.iload_n 1, 1) := dgX9_fine_1.2.2.2.2.2.2.1
theorem dX9_fine_36 : decode cX9_fine 36 = .ok (.iconst 2, 1) := dgX9_fine_1.2.2.2.2.2.2.2.1
theorem dX9_fine_37 : decode cX9_fine 37 = .ok (.invokevirtual 96, 3) := dgX9_fine_1.2.2.2.2.2.2.2.2.1
theorem dX9_fine_40 : decode cX9_fine 40 = .ok (.iastore, 1) := dgX9_fine_1.2.2.2.2.2.2.2.2.2.1
theorem dX9_fine_41 : decode cX9_fine 41 = .ok (.aload_n 0, 1) := dgX9_fine_1.2.2.2.2.2.2.2.2.2.2.1
theorem dX9_fine_42 : decode cX9_fine 42 = .ok (.getfield 55, 3) := dgX9_fine_1.2.2.2.2.2.2.2.2.2.2.2.1
theorem dX9_fine_45 : decode cX9_fine 45 = .ok (.iconst 2, 1) := dgX9_fine_1.2.2.2.2.2.2.2.2.2.2.2.2.1
theorem dX9_fine_46 : decode cX9_fine 46 = .ok (.aload_n 0, 1) := dgX9_fine_1.2.2.2.2.2.2.2.2.2.2.2.2.2.1
theorem dX9_fine_47 : decode cX9_fine 47 = .ok (.iload_n 1, 1) := dgX9_fine_1.2.2.2.2.2.2.2.2.2.2.2.2.2.2.1
theorem dX9_fine_48 : decode cX9_fine 48 = .ok (.iconst 4, 1) := dgX9_fine_1.2.2.2.2.2.2.2.2.2.2.2.2.2.2.2
theorem dgX9_fine_2 : decode cX9_fine 49 = .ok (.invokevirtual 96, 3) ∧ decode cX9_fine 52 = .ok (.iastore, 1) ∧ decode cX9_fine 53 = .ok (.iload_n 2, 1) ∧ decode cX9_fine 54 = .ok (.ifCond .ge 12, 3) ∧ decode cX9_fine 57 = .ok (.aload_n 0, 1) ∧ decode cX9_fine 58 = .ok (.iload_n 1, 1) ∧ decode cX9_fine 59 = .ok (.iconst 1, 1) ∧ decode cX9_fine 60 = .ok (.invokevirtual 96, 3) ∧ decode cX9_fine 63 = .ok (.goto 8, 3) ∧ decode cX9_fine 66 = .ok (.aload_n 0, 1) ∧ decode cX9_fine 67 = .ok (.iload_n 2, 1) ∧ decode cX9_fine 68 = .ok (.invokevirtual 114, 3) ∧ decode cX9_fine 71 = .ok (.ireturn, 1) := by decide +kernel
theorem dX9_fine_49 : decode cX9_fine 49 = .ok (.invokevirtual 96, 3) := dgX9_fine_2.1
theorem dX9_fine_52 : decode cX9_fine 52 = .ok (.iastore, 1) := dgX9_fine_2.2.1
theorem dX9_fine_53 : decode cX9_fine 53 = .ok (.iload_n 2, 1) := dgX9_fine_2.2.2.1
theorem dX9_fine_54 : decode cX9_fine 54 = .ok (.ifCond .ge 12, 3) := dgX9_fine_2.2.2.2.1
theorem dX9_fine_57 : decode cX9_fine 57 = .ok (.aload_n 0, 1) := dgX9_fine_2.2.2.2.2.1
theorem dX9_fine_58 : decode cX9_fine 58 = .ok (.iload_n 1, 1) := dgX9_fine_2.2.2.2.2.2.1
theorem dX9_fine_59 : decode cX9_fine 59 = .ok (.iconst 1, 1) := dgX9_fine_2.2.2.2.2.2.2.1
theorem dX9_fine_60 : decode cX9_fine 60 = .ok (.invokevirtual 96, 3) := dgX9_fine_2.2.2.2.2.2.2.2.1
theorem dX9_fine_63 : decode cX9_fine 63 = .ok (.goto 8, 3) := dgX9_fine_2.2.2.2.2.2.2.2.2.1
theorem dX9_fine_66 : decode cX9_fine 66 = .ok (.aload_n 0, 1) := dgX9_fine_2.2.2.2.2.2.2.2.2.2.1
theorem dX9_fine_67 : decode cX9_fine 67 = .ok (.iload_n 2, 1) := dgX9_fine_2.2.2.2.2.2.2.2.2.2.2.1
theorem dX9_fine_68 : decode cX9_fine 68 = .ok (.invokevirtual 114, 3) := dgX9_fine_2.2.2.2.2.2.2.2.2.2.2.2.1
theorem dX9_fine_71 : decode cX9_fine 71 = .ok (.ireturn, 1) := dgX9_fine_2.2.2.2.2.2.2.2.2.2.2.2.2
abbrev pX9_fine : List Nat := [0, 11, 66, 71]
def bX9_fine_0 (cal : ab_F) : ab_K := o_aload 0 <| o_iload 1 <| o_callV cal 133 1 8 <| o_if (fun x => decide (¬ x = 0)) 1 <| o_push (.int (-1000000001)) <| o_ret (some .int)
def bX9_fine_1 (cal : ab_F) : ab_K := o_aload 0 <| o_push (.int 2) <| o_callV cal 202 1 8 <| o_istore 2 <| o_aload 0 <| o_getf 8 25 <| o_push (.int 0) <| o_aload 0 <| o_iload 1 <| o_push (.int 1) <| o_callV cal 135 2 8 <| o_iast 0 (fun x => x) <| o_aload 0 <| o_getf 8 25 <| o_push (.int 1) <| o_aload 0 <| o_iload 1 <| o_push (.int 2) <| o_callV cal 135 2 8 <| o_iast 0 (fun x => x) <| o_aload 0 <| o_getf 8 25 <| o_push (.int 2) <| o_aload 0 <| o_iload 1 <| o_push (.int 4) <| o_callV cal 135 2 8 <| o_iast 0 (fun x => x) <| o_iload 2 <| o_if (fun x => decide (0 ≤ x)) 2 <| o_aload 0 <| o_iload 1 <| o_push (.int 1) <| o_callV cal 135 2 8 <| o_goto 3
def bX9_fine_2 (cal : ab_F) : ab_K := o_aload 0 <| o_iload 2 <| o_callV cal 205 1 8 <| o_goto 3
def bX9_fine_3 (cal : ab_F) : ab_K := o_ret (some .int)
def bX9_fine (cal : ab_F) : List ab_K := [bX9_fine_0 cal, bX9_fine_1 cal, bX9_fine_2 cal, bX9_fine_3 cal]
set_option maxRecDepth 100000 in
theorem sX9_fine_0 {G : ab_G} {xs : List Int32} {d : Nat} {cal : ab_F} (hcs : ab_CS G (ab_Z G xs) ab_Mf cal d) : ab_Sd G (ab_Z G xs) (d + 1) (ab_mY mX9_fine pX9_fine) 0 (bX9_fine_0 cal) :=
  sn_aload_n dX9_fine_0 rfl <| sn_iload_n dX9_fine_1 rfl <| sq_callV mt_133 hcs dX9_fine_2 rfl w_1119 w_1121 w_17 w_63 w_1122 hy_133 hm_133 <| sn_if_ne (tg := 11) dX9_fine_5 rfl rfl <| sn_ldc dX9_fine_8 w_1109 <| sn_ret dX9_fine_10 ab_ri_int
set_option maxRecDepth 100000 in
theorem sX9_fine_1 {G : ab_G} {xs : List Int32} {d : Nat} {cal : ab_F} (hcs : ab_CS G (ab_Z G xs) ab_Mf cal d) : ab_Sd G (ab_Z G xs) (d + 1) (ab_mY mX9_fine pX9_fine) 11 (bX9_fine_1 cal) :=
  sn_aload_n dX9_fine_11 rfl <| sn_iconst dX9_fine_12 rfl <| sq_callV mt_202 hcs dX9_fine_13 rfl w_1154 w_1156 w_24 w_63 w_1157 hy_202 hm_202 <| sn_istore_n dX9_fine_16 rfl (by decide) <| sn_aload_n dX9_fine_17 rfl <| sn_getf dX9_fine_18 rfl hinX9 (by decide) w_1016 <| sn_iconst dX9_fine_21 rfl <| sn_aload_n dX9_fine_22 rfl <| sn_iload_n dX9_fine_23 rfl <| sn_iconst dX9_fine_24 rfl <| sq_callV mt_135 hcs dX9_fine_25 rfl w_1123 w_1125 w_18 w_63 w_1126 hy_135 hm_135 <| sn_iast dX9_fine_28 rfl rfl <| sn_aload_n dX9_fine_29 rfl <| sn_getf dX9_fine_30 rfl hinX9 (by decide) w_1016 <| sn_iconst dX9_fine_33 rfl <| sn_aload_n dX9_fine_34 rfl <| sn_iload_n dX9_fine_35 rfl <| sn_iconst dX9_fine_36 rfl <| sq_callV mt_135 hcs dX9_fine_37 rfl w_1123 w_1125 w_18 w_63 w_1126 hy_135 hm_135 <| sn_iast dX9_fine_40 rfl rfl <| sn_aload_n dX9_fine_41 rfl <| sn_getf dX9_fine_42 rfl hinX9 (by decide) w_1016 <| sn_iconst dX9_fine_45 rfl <| sn_aload_n dX9_fine_46 rfl <| sn_iload_n dX9_fine_47 rfl <| sn_iconst dX9_fine_48 rfl <| sq_callV mt_135 hcs dX9_fine_49 rfl w_1123 w_1125 w_18 w_63 w_1126 hy_135 hm_135 <| sn_iast dX9_fine_52 rfl rfl <| sn_iload_n dX9_fine_53 rfl <| sn_if_ge (tg := 66) dX9_fine_54 rfl rfl <| sn_aload_n dX9_fine_57 rfl <| sn_iload_n dX9_fine_58 rfl <| sn_iconst dX9_fine_59 rfl <| sq_callV mt_135 hcs dX9_fine_60 rfl w_1123 w_1125 w_18 w_63 w_1126 hy_135 hm_135 <| sn_goto (tg := 71) dX9_fine_63 rfl rfl
set_option maxRecDepth 100000 in
theorem sX9_fine_2 {G : ab_G} {xs : List Int32} {d : Nat} {cal : ab_F} (hcs : ab_CS G (ab_Z G xs) ab_Mf cal d) : ab_Sd G (ab_Z G xs) (d + 1) (ab_mY mX9_fine pX9_fine) 66 (bX9_fine_2 cal) :=
  sn_aload_n dX9_fine_66 rfl <| sn_iload_n dX9_fine_67 rfl <| sq_callV mt_205 hcs dX9_fine_68 rfl w_1158 w_1160 w_25 w_63 w_1161 hy_205 hm_205 <| sn_next rfl
set_option maxRecDepth 100000 in
theorem sX9_fine_3 {G : ab_G} {xs : List Int32} {d : Nat} {cal : ab_F} (hcs : ab_CS G (ab_Z G xs) ab_Mf cal d) : ab_Sd G (ab_Z G xs) (d + 1) (ab_mY mX9_fine pX9_fine) 71 (bX9_fine_3 cal) :=
  sn_ret dX9_fine_71 ab_ri_int
theorem sX9_fine {G : ab_G} {xs : List Int32} {d : Nat} {cal : ab_F} (hcs : ab_CS G (ab_Z G xs) ab_Mf cal d) : ab_BS G (ab_Z G xs) (d + 1) (ab_mY mX9_fine pX9_fine) pX9_fine (bX9_fine cal) := ⟨sX9_fine_0 hcs, sX9_fine_1 hcs, sX9_fine_2 hcs, sX9_fine_3 hcs, trivial⟩
theorem dgX9_feed_0 : decode cX9_feed 0 = .ok (.aload_n 0, 1) ∧ decode cX9_feed 1 = .ok (.getfield 214, 3) ∧ decode cX9_feed 4 = .ok (.bipush 12, 2) ∧ decode cX9_feed 6 = .ok (.iadd, 1) ∧ decode cX9_feed 7 = .ok (.bipush 96, 2) ∧ decode cX9_feed 9 = .ok (.if_icmp .le 6, 3) ∧ decode cX9_feed 12 = .ok (.ldc 91, 2) ∧ decode cX9_feed 14 = .ok (.ireturn, 1) ∧ decode cX9_feed 15 = .ok (.iconst 0, 1) ∧ decode cX9_feed 16 = .ok (.istore 4, 2) ∧ decode cX9_feed 18 = .ok (.iload 4, 2) ∧ decode cX9_feed 20 = .ok (.bipush 12, 2) ∧ decode cX9_feed 22 = .ok (.if_icmp .ge 62, 3) ∧ decode cX9_feed 25 = .ok (.iload 4, 2) ∧ decode cX9_feed 27 = .ok (.iconst 4, 1) ∧ decode cX9_feed 28 = .ok (.if_icmp .ge 7, 3) := by decide +kernel
theorem dX9_feed_0 : decode cX9_feed 0 = .ok (.aload_n 0, 1) := dgX9_feed_0.1
theorem dX9_feed_1 : decode cX9_feed 1 = .ok (.getfield 214, 3) := dgX9_feed_0.2.1
theorem dX9_feed_4 : decode cX9_feed 4 = .ok (.bipush 12, 2) := dgX9_feed_0.2.2.1
theorem dX9_feed_6 : decode cX9_feed 6 = .ok (.iadd, 1) := dgX9_feed_0.2.2.2.1
theorem dX9_feed_7 : decode cX9_feed 7 = .ok (.bipush 96, 2) := dgX9_feed_0.2.2.2.2.1
theorem dX9_feed_9 : decode cX9_feed 9 = .ok (.if_icmp .le 6, 3) := dgX9_feed_0.2.2.2.2.2.1
theorem dX9_feed_12 : decode cX9_feed 12 = .ok (.ldc 91, 2) := dgX9_feed_0.2.2.2.2.2.2.1
theorem dX9_feed_14 : decode cX9_feed 14 = .ok (.ireturn, 1) := dgX9_feed_0.2.2.2.2.2.2.2.1
theorem dX9_feed_15 : decode cX9_feed 15 = .ok (.iconst 0, 1) := dgX9_feed_0.2.2.2.2.2.2.2.2.1
theorem dX9_feed_16 : decode cX9_feed 16 = .ok (.istore 4, 2) := dgX9_feed_0.2.2.2.2.2.2.2.2.2.1
theorem dX9_feed_18 : decode cX9_feed 18 = .ok (.iload 4, 2) := dgX9_feed_0.2.2.2.2.2.2.2.2.2.2.1
theorem dX9_feed_20 : decode cX9_feed 20 = .ok (.bipush 12, 2) := dgX9_feed_0.2.2.2.2.2.2.2.2.2.2.2.1
theorem dX9_feed_22 : decode cX9_feed 22 = .ok (.if_icmp .ge 62, 3) := dgX9_feed_0.2.2.2.2.2.2.2.2.2.2.2.2.1
theorem dX9_feed_25 : decode cX9_feed 25 = .ok (.iload 4, 2) := dgX9_feed_0.2.2.2.2.2.2.2.2.2.2.2.2.2.1
theorem dX9_feed_27 : decode cX9_feed 27 = .ok (.iconst 4, 1) := dgX9_feed_0.2.2.2.2.2.2.2.2.2.2.2.2.2.2.1
theorem dX9_feed_28 : decode cX9_feed 28 = .ok (.if_icmp .ge 7, 3) := dgX9_feed_0.2.2.2.2.2.2.2.2.2.2.2.2.2.2.2
theorem dgX9_feed_1 : decode cX9_feed 31 = .ok (.iload_n 1, 1) ∧ decode cX9_feed 32 = .ok (.goto 15, 3) ∧ decode cX9_feed 35 = .ok (.iload 4, 2) ∧ decode cX9_feed 37 = .ok (.bipush 8, 2) ∧ decode cX9_feed 39 = .ok (.if_icmp .ge 7, 3) ∧ decode cX9_feed 42 = .ok (.iload_n 2, 1) ∧ decode cX9_feed 43 = .ok (.goto 4, 3) ∧ decode cX9_feed 46 = .ok (.iload_n 3, 1) ∧ decode cX9_feed 47 = .ok (.istore 5, 2) ∧ decode cX9_feed 49 = .ok (.aload_n 0, 1) ∧ decode cX9_feed 50 = .ok (.getfield 32, 3) ∧ decode cX9_feed 53 = .ok (.aload_n 0, 1) ∧ decode cX9_feed 54 = .ok (.getfield 214, 3) ∧ decode cX9_feed 57 = .ok (.iload 4, 2) ∧ decode cX9_feed 59 = .ok (.iadd, 1) ∧ decode cX9_feed 60 = .ok (.iload 5, 2) := by decide +kernel
theorem dX9_feed_31 : decode cX9_feed 31 = .ok (.iload_n 1, 1) := dgX9_feed_1.1
theorem dX9_feed_32 : decode cX9_feed 32 = .ok (.goto 15, 3) := dgX9_feed_1.2.1
theorem dX9_feed_35 : decode cX9_feed 35 = .ok (.iload 4, 2) := dgX9_feed_1.2.2.1
theorem dX9_feed_37 : decode cX9_feed 37 = .ok (.bipush 8, 2) := dgX9_feed_1.2.2.2.1
theorem dX9_feed_39 : decode cX9_feed 39 = .ok (.if_icmp .ge 7, 3) := dgX9_feed_1.2.2.2.2.1
theorem dX9_feed_42 : decode cX9_feed 42 = .ok (.iload_n 2, 1) := dgX9_feed_1.2.2.2.2.2.1
theorem dX9_feed_43 : decode cX9_feed 43 = .ok (.goto 4, 3) := dgX9_feed_1.2.2.2.2.2.2.1
theorem dX9_feed_46 : decode cX9_feed 46 = .ok (.iload_n 3, 1) := dgX9_feed_1.2.2.2.2.2.2.2.1
theorem dX9_feed_47 : decode cX9_feed 47 = .ok (.istore 5, 2) := dgX9_feed_1.2.2.2.2.2.2.2.2.1
theorem dX9_feed_49 : decode cX9_feed 49 = .ok (.aload_n 0, 1) := dgX9_feed_1.2.2.2.2.2.2.2.2.2.1
theorem dX9_feed_50 : decode cX9_feed 50 = .ok (.getfield 32, 3) := dgX9_feed_1.2.2.2.2.2.2.2.2.2.2.1
theorem dX9_feed_53 : decode cX9_feed 53 = .ok (.aload_n 0, 1) := dgX9_feed_1.2.2.2.2.2.2.2.2.2.2.2.1
theorem dX9_feed_54 : decode cX9_feed 54 = .ok (.getfield 214, 3) := dgX9_feed_1.2.2.2.2.2.2.2.2.2.2.2.2.1
theorem dX9_feed_57 : decode cX9_feed 57 = .ok (.iload 4, 2) := dgX9_feed_1.2.2.2.2.2.2.2.2.2.2.2.2.2.1
theorem dX9_feed_59 : decode cX9_feed 59 = .ok (.iadd, 1) := dgX9_feed_1.2.2.2.2.2.2.2.2.2.2.2.2.2.2.1
theorem dX9_feed_60 : decode cX9_feed 60 = .ok (.iload 5, 2) := dgX9_feed_1.2.2.2.2.2.2.2.2.2.2.2.2.2.2.2
theorem dgX9_feed_2 : decode cX9_feed 62 = .ok (.bipush 24, 2) ∧ decode cX9_feed 64 = .ok (.bipush 8, 2) ∧ decode cX9_feed 66 = .ok (.iload 4, 2) ∧ decode cX9_feed 68 = .ok (.iconst 4, 1) ∧ decode cX9_feed 69 = .ok (.irem, 1) ∧ decode cX9_feed 70 = .ok (.imul, 1) ∧ decode cX9_feed 71 = .ok (.isub, 1) ∧ decode cX9_feed 72 = .ok (.ishr, 1) ∧ decode cX9_feed 73 = .ok (.sipush 255, 3) ∧ decode cX9_feed 76 = .ok (.iand, 1) ∧ decode cX9_feed 77 = .ok (.iastore, 1) ∧ decode cX9_feed 78 = .ok (.iinc 4 1, 3) ∧ decode cX9_feed 81 = .ok (.goto (-63), 3) ∧ decode cX9_feed 84 = .ok (.aload_n 0, 1) ∧ decode cX9_feed 85 = .ok (.dup, 1) ∧ decode cX9_feed 86 = .ok (.getfield 214, 3) := by decide +kernel
theorem dX9_feed_62 : decode cX9_feed 62 = .ok (.bipush 24, 2) := dgX9_feed_2.1
theorem dX9_feed_64 : decode cX9_feed 64 = .ok (.bipush 8, 2) := dgX9_feed_2.2.1
theorem dX9_feed_66 : decode cX9_feed 66 = .ok (.iload 4, 2) := dgX9_feed_2.2.2.1
theorem dX9_feed_68 : decode cX9_feed 68 = .ok (.iconst 4, 1) := dgX9_feed_2.2.2.2.1
theorem dX9_feed_69 : decode cX9_feed 69 = .ok (.irem, 1) := dgX9_feed_2.2.2.2.2.1
theorem dX9_feed_70 : decode cX9_feed 70 = .ok (.imul, 1) := dgX9_feed_2.2.2.2.2.2.1
theorem dX9_feed_71 : decode cX9_feed 71 = .ok (.isub, 1) := dgX9_feed_2.2.2.2.2.2.2.1
theorem dX9_feed_72 : decode cX9_feed 72 = .ok (.ishr, 1) := dgX9_feed_2.2.2.2.2.2.2.2.1
theorem dX9_feed_73 : decode cX9_feed 73 = .ok (.sipush 255, 3) := dgX9_feed_2.2.2.2.2.2.2.2.2.1
theorem dX9_feed_76 : decode cX9_feed 76 = .ok (.iand, 1) := dgX9_feed_2.2.2.2.2.2.2.2.2.2.1
theorem dX9_feed_77 : decode cX9_feed 77 = .ok (.iastore, 1) := dgX9_feed_2.2.2.2.2.2.2.2.2.2.2.1
theorem dX9_feed_78 : decode cX9_feed 78 = .ok (.iinc 4 1, 3) := dgX9_feed_2.2.2.2.2.2.2.2.2.2.2.2.1
theorem dX9_feed_81 : decode cX9_feed 81 = .ok (.goto (-63), 3) := dgX9_feed_2.2.2.2.2.2.2.2.2.2.2.2.2.1
theorem dX9_feed_84 : decode cX9_feed 84 = .ok (.aload_n 0, 1) := dgX9_feed_2.2.2.2.2.2.2.2.2.2.2.2.2.2.1
theorem dX9_feed_85 : decode cX9_feed 85 = .ok (.dup, 1) := dgX9_feed_2.2.2.2.2.2.2.2.2.2.2.2.2.2.2.1
theorem dX9_feed_86 : decode cX9_feed 86 = .ok (.getfield 214, 3) := dgX9_feed_2.2.2.2.2.2.2.2.2.2.2.2.2.2.2.2
theorem dgX9_feed_3 : decode cX9_feed 89 = .ok (.bipush 12, 2) ∧ decode cX9_feed 91 = .ok (.iadd, 1) ∧ decode cX9_feed 92 = .ok (.putfield 214, 3) ∧ decode cX9_feed 95 = .ok (.aload_n 0, 1) ∧ decode cX9_feed 96 = .ok (.getfield 214, 3) ∧ decode cX9_feed 99 = .ok (.ireturn, 1) := by decide +kernel
theorem dX9_feed_89 : decode cX9_feed 89 = .ok (.bipush 12, 2) := dgX9_feed_3.1
theorem dX9_feed_91 : decode cX9_feed 91 = .ok (.iadd, 1) := dgX9_feed_3.2.1
theorem dX9_feed_92 : decode cX9_feed 92 = .ok (.putfield 214, 3) := dgX9_feed_3.2.2.1
theorem dX9_feed_95 : decode cX9_feed 95 = .ok (.aload_n 0, 1) := dgX9_feed_3.2.2.2.1
theorem dX9_feed_96 : decode cX9_feed 96 = .ok (.getfield 214, 3) := dgX9_feed_3.2.2.2.2.1
theorem dX9_feed_99 : decode cX9_feed 99 = .ok (.ireturn, 1) := dgX9_feed_3.2.2.2.2.2
abbrev pX9_feed : List Nat := [0, 15, 18, 35, 46, 47, 84]
def bX9_feed_0 (cal : ab_F) : ab_K := o_aload 0 <| o_getf 8 9 <| o_push (.int 12) <| o_bin (fun x y => x + y) <| o_push (.int 96) <| o_cmp (fun x y => decide (x ≤ y)) 1 <| o_push (.int (-1000000003)) <| o_ret (some .int)
def bX9_feed_1 (cal : ab_F) : ab_K := o_push (.int 0) <| o_istore 4 <| o_goto 2
def bX9_feed_2 (cal : ab_F) : ab_K := o_iload 4 <| o_push (.int 12) <| o_cmp (fun x y => decide (y ≤ x)) 6 <| o_iload 4 <| o_push (.int 4) <| o_cmp (fun x y => decide (y ≤ x)) 3 <| o_iload 1 <| o_goto 5
def bX9_feed_3 (cal : ab_F) : ab_K := o_iload 4 <| o_push (.int 8) <| o_cmp (fun x y => decide (y ≤ x)) 4 <| o_iload 2 <| o_goto 5
def bX9_feed_4 (cal : ab_F) : ab_K := o_iload 3 <| o_goto 5
def bX9_feed_5 (cal : ab_F) : ab_K := o_istore 5 <| o_aload 0 <| o_getf 8 8 <| o_aload 0 <| o_getf 8 9 <| o_iload 4 <| o_bin (fun x y => x + y) <| o_iload 5 <| o_push (.int 24) <| o_push (.int 8) <| o_iload 4 <| o_push (.int 4) <| o_div (fun x y => x - x / y * y) <| o_bin (fun x y => x * y) <| o_bin (fun x y => x - y) <| o_bin (fun x y => x >>> (y &&& 31)) <| o_push (.int 255) <| o_bin (fun x y => x &&& y) <| o_iast 0 (fun x => x) <| o_iinc 4 1 <| o_goto 2
def bX9_feed_6 (cal : ab_F) : ab_K := o_aload 0 <| o_dup <| o_getf 8 9 <| o_push (.int 12) <| o_bin (fun x y => x + y) <| o_putI 8 9 <| o_aload 0 <| o_getf 8 9 <| o_ret (some .int)
def bX9_feed (cal : ab_F) : List ab_K := [bX9_feed_0 cal, bX9_feed_1 cal, bX9_feed_2 cal, bX9_feed_3 cal, bX9_feed_4 cal, bX9_feed_5 cal, bX9_feed_6 cal]
set_option maxRecDepth 100000 in
theorem sX9_feed_0 {G : ab_G} {xs : List Int32} {d : Nat} {cal : ab_F} (hcs : ab_CS G (ab_Z G xs) ab_Mf cal d) : ab_Sd G (ab_Z G xs) (d + 1) (ab_mY mX9_feed pX9_feed) 0 (bX9_feed_0 cal) :=
  sn_aload_n dX9_feed_0 rfl <| sn_getf dX9_feed_1 rfl hinX9 (by decide) w_1000 <| sn_bipush dX9_feed_4 rfl <| sn_iadd dX9_feed_6 <| sn_bipush dX9_feed_7 rfl <| sn_cmp_le (tg := 15) dX9_feed_9 rfl rfl <| sn_ldc dX9_feed_12 w_1110 <| sn_ret dX9_feed_14 ab_ri_int
set_option maxRecDepth 100000 in
theorem sX9_feed_1 {G : ab_G} {xs : List Int32} {d : Nat} {cal : ab_F} (hcs : ab_CS G (ab_Z G xs) ab_Mf cal d) : ab_Sd G (ab_Z G xs) (d + 1) (ab_mY mX9_feed pX9_feed) 15 (bX9_feed_1 cal) :=
  sn_iconst dX9_feed_15 rfl <| sn_istore dX9_feed_16 (by decide) <| sn_next rfl
set_option maxRecDepth 100000 in
theorem sX9_feed_2 {G : ab_G} {xs : List Int32} {d : Nat} {cal : ab_F} (hcs : ab_CS G (ab_Z G xs) ab_Mf cal d) : ab_Sd G (ab_Z G xs) (d + 1) (ab_mY mX9_feed pX9_feed) 18 (bX9_feed_2 cal) :=
  sn_iload dX9_feed_18 <| sn_bipush dX9_feed_20 rfl <| sn_cmp_ge (tg := 84) dX9_feed_22 rfl rfl <| sn_iload dX9_feed_25 <| sn_iconst dX9_feed_27 rfl <| sn_cmp_ge (tg := 35) dX9_feed_28 rfl rfl <| sn_iload_n dX9_feed_31 rfl <| sn_goto (tg := 47) dX9_feed_32 rfl rfl
set_option maxRecDepth 100000 in
theorem sX9_feed_3 {G : ab_G} {xs : List Int32} {d : Nat} {cal : ab_F} (hcs : ab_CS G (ab_Z G xs) ab_Mf cal d) : ab_Sd G (ab_Z G xs) (d + 1) (ab_mY mX9_feed pX9_feed) 35 (bX9_feed_3 cal) :=
  sn_iload dX9_feed_35 <| sn_bipush dX9_feed_37 rfl <| sn_cmp_ge (tg := 46) dX9_feed_39 rfl rfl <| sn_iload_n dX9_feed_42 rfl <| sn_goto (tg := 47) dX9_feed_43 rfl rfl
set_option maxRecDepth 100000 in
theorem sX9_feed_4 {G : ab_G} {xs : List Int32} {d : Nat} {cal : ab_F} (hcs : ab_CS G (ab_Z G xs) ab_Mf cal d) : ab_Sd G (ab_Z G xs) (d + 1) (ab_mY mX9_feed pX9_feed) 46 (bX9_feed_4 cal) :=
  sn_iload_n dX9_feed_46 rfl <| sn_next rfl
set_option maxRecDepth 100000 in
theorem sX9_feed_5 {G : ab_G} {xs : List Int32} {d : Nat} {cal : ab_F} (hcs : ab_CS G (ab_Z G xs) ab_Mf cal d) : ab_Sd G (ab_Z G xs) (d + 1) (ab_mY mX9_feed pX9_feed) 47 (bX9_feed_5 cal) :=
  sn_istore dX9_feed_47 (by decide) <| sn_aload_n dX9_feed_49 rfl <| sn_getf dX9_feed_50 rfl hinX9 (by decide) w_999 <| sn_aload_n dX9_feed_53 rfl <| sn_getf dX9_feed_54 rfl hinX9 (by decide) w_1000 <| sn_iload dX9_feed_57 <| sn_iadd dX9_feed_59 <| sn_iload dX9_feed_60 <| sn_bipush dX9_feed_62 rfl <| sn_bipush dX9_feed_64 rfl <| sn_iload dX9_feed_66 <| sn_iconst dX9_feed_68 rfl <| sn_irem dX9_feed_69 <| sn_imul dX9_feed_70 <| sn_isub dX9_feed_71 <| sn_ishr dX9_feed_72 <| sn_sipush dX9_feed_73 rfl <| sn_iand dX9_feed_76 <| sn_iast dX9_feed_77 rfl rfl <| sn_iinc dX9_feed_78 rfl (by decide) <| sn_goto (tg := 18) dX9_feed_81 rfl rfl
set_option maxRecDepth 100000 in
theorem sX9_feed_6 {G : ab_G} {xs : List Int32} {d : Nat} {cal : ab_F} (hcs : ab_CS G (ab_Z G xs) ab_Mf cal d) : ab_Sd G (ab_Z G xs) (d + 1) (ab_mY mX9_feed pX9_feed) 84 (bX9_feed_6 cal) :=
  sn_aload_n dX9_feed_84 rfl <| sn_dup dX9_feed_85 <| sn_getf dX9_feed_86 rfl hinX9 (by decide) w_1000 <| sn_bipush dX9_feed_89 rfl <| sn_iadd dX9_feed_91 <| sn_putI tyX9 tyX9_ok nmX9 dX9_feed_92 rfl hinX9 (by decide) w_1000 (Or.inl rfl) (tyX9_ok 9 (by decide)) <| sn_aload_n dX9_feed_95 rfl <| sn_getf dX9_feed_96 rfl hinX9 (by decide) w_1000 <| sn_ret dX9_feed_99 ab_ri_int
theorem sX9_feed {G : ab_G} {xs : List Int32} {d : Nat} {cal : ab_F} (hcs : ab_CS G (ab_Z G xs) ab_Mf cal d) : ab_BS G (ab_Z G xs) (d + 1) (ab_mY mX9_feed pX9_feed) pX9_feed (bX9_feed cal) := ⟨sX9_feed_0 hcs, sX9_feed_1 hcs, sX9_feed_2 hcs, sX9_feed_3 hcs, sX9_feed_4 hcs, sX9_feed_5 hcs, sX9_feed_6 hcs, trivial⟩
theorem dgX9_trim_0 : decode cX9_trim 0 = .ok (.iload_n 1, 1) ∧ decode cX9_trim 1 = .ok (.iconst 0, 1) ∧ decode cX9_trim 2 = .ok (.aload_n 0, 1) ∧ decode cX9_trim 3 = .ok (.getfield 214, 3) ∧ decode cX9_trim 6 = .ok (.invokestatic 86, 3) ∧ decode cX9_trim 9 = .ok (.ifCond .ne 6, 3) ∧ decode cX9_trim 12 = .ok (.ldc 90, 2) ∧ decode cX9_trim 14 = .ok (.ireturn, 1) ∧ decode cX9_trim 15 = .ok (.aload_n 0, 1) ∧ decode cX9_trim 16 = .ok (.iload_n 1, 1) ∧ decode cX9_trim 17 = .ok (.putfield 214, 3) ∧ decode cX9_trim 20 = .ok (.iload_n 1, 1) ∧ decode cX9_trim 21 = .ok (.ireturn, 1) := by decide +kernel
theorem dX9_trim_0 : decode cX9_trim 0 = .ok (.iload_n 1, 1) := dgX9_trim_0.1
theorem dX9_trim_1 : decode cX9_trim 1 = .ok (.iconst 0, 1) := dgX9_trim_0.2.1
theorem dX9_trim_2 : decode cX9_trim 2 = .ok (.aload_n 0, 1) := dgX9_trim_0.2.2.1
theorem dX9_trim_3 : decode cX9_trim 3 = .ok (.getfield 214, 3) := dgX9_trim_0.2.2.2.1
theorem dX9_trim_6 : decode cX9_trim 6 = .ok (.invokestatic 86, 3) := dgX9_trim_0.2.2.2.2.1
theorem dX9_trim_9 : decode cX9_trim 9 = .ok (.ifCond .ne 6, 3) := dgX9_trim_0.2.2.2.2.2.1
theorem dX9_trim_12 : decode cX9_trim 12 = .ok (.ldc 90, 2) := dgX9_trim_0.2.2.2.2.2.2.1
theorem dX9_trim_14 : decode cX9_trim 14 = .ok (.ireturn, 1) := dgX9_trim_0.2.2.2.2.2.2.2.1
theorem dX9_trim_15 : decode cX9_trim 15 = .ok (.aload_n 0, 1) := dgX9_trim_0.2.2.2.2.2.2.2.2.1
theorem dX9_trim_16 : decode cX9_trim 16 = .ok (.iload_n 1, 1) := dgX9_trim_0.2.2.2.2.2.2.2.2.2.1
theorem dX9_trim_17 : decode cX9_trim 17 = .ok (.putfield 214, 3) := dgX9_trim_0.2.2.2.2.2.2.2.2.2.2.1
theorem dX9_trim_20 : decode cX9_trim 20 = .ok (.iload_n 1, 1) := dgX9_trim_0.2.2.2.2.2.2.2.2.2.2.2.1
theorem dX9_trim_21 : decode cX9_trim 21 = .ok (.ireturn, 1) := dgX9_trim_0.2.2.2.2.2.2.2.2.2.2.2.2
abbrev pX9_trim : List Nat := [0, 15]
def bX9_trim_0 (cal : ab_F) : ab_K := o_iload 1 <| o_push (.int 0) <| o_aload 0 <| o_getf 8 9 <| o_callS cal 128 3 <| o_if (fun x => decide (¬ x = 0)) 1 <| o_push (.int (-1000000001)) <| o_ret (some .int)
def bX9_trim_1 (cal : ab_F) : ab_K := o_aload 0 <| o_iload 1 <| o_putI 8 9 <| o_iload 1 <| o_ret (some .int)
def bX9_trim (cal : ab_F) : List ab_K := [bX9_trim_0 cal, bX9_trim_1 cal]
set_option maxRecDepth 100000 in
theorem sX9_trim_0 {G : ab_G} {xs : List Int32} {d : Nat} {cal : ab_F} (hcs : ab_CS G (ab_Z G xs) ab_Mf cal d) : ab_Sd G (ab_Z G xs) (d + 1) (ab_mY mX9_trim pX9_trim) 0 (bX9_trim_0 cal) :=
  sn_iload_n dX9_trim_0 rfl <| sn_iconst dX9_trim_1 rfl <| sn_aload_n dX9_trim_2 rfl <| sn_getf dX9_trim_3 rfl hinX9 (by decide) w_1000 <| sq_callS mt_128 hcs dX9_trim_6 w_1106 w_1107 w_63 w_1108 hy_128 hm_128 <| sn_if_ne (tg := 15) dX9_trim_9 rfl rfl <| sn_ldc dX9_trim_12 w_1109 <| sn_ret dX9_trim_14 ab_ri_int
set_option maxRecDepth 100000 in
theorem sX9_trim_1 {G : ab_G} {xs : List Int32} {d : Nat} {cal : ab_F} (hcs : ab_CS G (ab_Z G xs) ab_Mf cal d) : ab_Sd G (ab_Z G xs) (d + 1) (ab_mY mX9_trim pX9_trim) 15 (bX9_trim_1 cal) :=
  sn_aload_n dX9_trim_15 rfl <| sn_iload_n dX9_trim_16 rfl <| sn_putI tyX9 tyX9_ok nmX9 dX9_trim_17 rfl hinX9 (by decide) w_1000 (Or.inl rfl) (tyX9_ok 9 (by decide)) <| sn_iload_n dX9_trim_20 rfl <| sn_ret dX9_trim_21 ab_ri_int
theorem sX9_trim {G : ab_G} {xs : List Int32} {d : Nat} {cal : ab_F} (hcs : ab_CS G (ab_Z G xs) ab_Mf cal d) : ab_BS G (ab_Z G xs) (d + 1) (ab_mY mX9_trim pX9_trim) pX9_trim (bX9_trim cal) := ⟨sX9_trim_0 hcs, sX9_trim_1 hcs, trivial⟩
theorem dgX9_isLetter_0 : decode cX9_isLetter 0 = .ok (.iload_n 1, 1) ∧ decode cX9_isLetter 1 = .ok (.aload_n 0, 1) ∧ decode cX9_isLetter 2 = .ok (.getfield 214, 3) ∧ decode cX9_isLetter 5 = .ok (.if_icmp .ge 29, 3) ∧ decode cX9_isLetter 8 = .ok (.aload_n 0, 1) ∧ decode cX9_isLetter 9 = .ok (.getfield 32, 3) ∧ decode cX9_isLetter 12 = .ok (.iload_n 1, 1) ∧ decode cX9_isLetter 13 = .ok (.iaload, 1) ∧ decode cX9_isLetter 14 = .ok (.bipush 97, 2) ∧ decode cX9_isLetter 16 = .ok (.if_icmp .lt 18, 3) ∧ decode cX9_isLetter 19 = .ok (.aload_n 0, 1) ∧ decode cX9_isLetter 20 = .ok (.getfield 32, 3) ∧ decode cX9_isLetter 23 = .ok (.iload_n 1, 1) ∧ decode cX9_isLetter 24 = .ok (.iaload, 1) ∧ decode cX9_isLetter 25 = .ok (.bipush 122, 2) ∧ decode cX9_isLetter 27 = .ok (.if_icmp .gt 7, 3) := by decide +kernel
theorem dX9_isLetter_0 : decode cX9_isLetter 0 = .ok (.iload_n 1, 1) := dgX9_isLetter_0.1
theorem dX9_isLetter_1 : decode cX9_isLetter 1 = .ok (.aload_n 0, 1) := dgX9_isLetter_0.2.1
theorem dX9_isLetter_2 : decode cX9_isLetter 2 = .ok (.getfield 214, 3) := dgX9_isLetter_0.2.2.1
theorem dX9_isLetter_5 : decode cX9_isLetter 5 = .ok (.if_icmp .ge 29, 3) := dgX9_isLetter_0.2.2.2.1
theorem dX9_isLetter_8 : decode cX9_isLetter 8 = .ok (.aload_n 0, 1) := dgX9_isLetter_0.2.2.2.2.1
theorem dX9_isLetter_9 : decode cX9_isLetter 9 = .ok (.getfield 32, 3) := dgX9_isLetter_0.2.2.2.2.2.1
theorem dX9_isLetter_12 : decode cX9_isLetter 12 = .ok (.iload_n 1, 1) := dgX9_isLetter_0.2.2.2.2.2.2.1
theorem dX9_isLetter_13 : decode cX9_isLetter 13 = .ok (.iaload, 1) := dgX9_isLetter_0.2.2.2.2.2.2.2.1
theorem dX9_isLetter_14 : decode cX9_isLetter 14 = .ok (.bipush 97, 2) := dgX9_isLetter_0.2.2.2.2.2.2.2.2.1
theorem dX9_isLetter_16 : decode cX9_isLetter 16 = .ok (.if_icmp .lt 18, 3) := dgX9_isLetter_0.2.2.2.2.2.2.2.2.2.1
theorem dX9_isLetter_19 : decode cX9_isLetter 19 = .ok (.aload_n 0, 1) := dgX9_isLetter_0.2.2.2.2.2.2.2.2.2.2.1
theorem dX9_isLetter_20 : decode cX9_isLetter 20 = .ok (.getfield 32, 3) := dgX9_isLetter_0.2.2.2.2.2.2.2.2.2.2.2.1
theorem dX9_isLetter_23 : decode cX9_isLetter 23 = .ok (.iload_n 1, 1) := dgX9_isLetter_0.2.2.2.2.2.2.2.2.2.2.2.2.1
theorem dX9_isLetter_24 : decode cX9_isLetter 24 = .ok (.iaload, 1) := dgX9_isLetter_0.2.2.2.2.2.2.2.2.2.2.2.2.2.1
theorem dX9_isLetter_25 : decode cX9_isLetter 25 = .ok (.bipush 122, 2) := dgX9_isLetter_0.2.2.2.2.2.2.2.2.2.2.2.2.2.2.1
theorem dX9_isLetter_27 : decode cX9_isLetter 27 = .ok (.if_icmp .gt 7, 3) := dgX9_isLetter_0.2.2.2.2.2.2.2.2.2.2.2.2.2.2.2
theorem dgX9_isLetter_1 : decode cX9_isLetter 30 = .ok (.iconst 1, 1) ∧ decode cX9_isLetter 31 = .ok (.goto 4, 3) ∧ decode cX9_isLetter 34 = .ok (.iconst 0, 1) ∧ decode cX9_isLetter 35 = .ok (.ireturn, 1) := by decide +kernel
theorem dX9_isLetter_30 : decode cX9_isLetter 30 = .ok (.iconst 1, 1) := dgX9_isLetter_1.1
theorem dX9_isLetter_31 : decode cX9_isLetter 31 = .ok (.goto 4, 3) := dgX9_isLetter_1.2.1
theorem dX9_isLetter_34 : decode cX9_isLetter 34 = .ok (.iconst 0, 1) := dgX9_isLetter_1.2.2.1
theorem dX9_isLetter_35 : decode cX9_isLetter 35 = .ok (.ireturn, 1) := dgX9_isLetter_1.2.2.2
abbrev pX9_isLetter : List Nat := [0, 34, 35]
def bX9_isLetter_0 (cal : ab_F) : ab_K := o_iload 1 <| o_aload 0 <| o_getf 8 9 <| o_cmp (fun x y => decide (y ≤ x)) 1 <| o_aload 0 <| o_getf 8 8 <| o_iload 1 <| o_iald 0 <| o_push (.int 97) <| o_cmp (fun x y => decide (x < y)) 1 <| o_aload 0 <| o_getf 8 8 <| o_iload 1 <| o_iald 0 <| o_push (.int 122) <| o_cmp (fun x y => decide (y < x)) 1 <| o_push (.int 1) <| o_goto 2
def bX9_isLetter_1 (cal : ab_F) : ab_K := o_push (.int 0) <| o_goto 2
def bX9_isLetter_2 (cal : ab_F) : ab_K := o_ret (some .boolean)
def bX9_isLetter (cal : ab_F) : List ab_K := [bX9_isLetter_0 cal, bX9_isLetter_1 cal, bX9_isLetter_2 cal]
set_option maxRecDepth 100000 in
theorem sX9_isLetter_0 {G : ab_G} {xs : List Int32} {d : Nat} {cal : ab_F} (hcs : ab_CS G (ab_Z G xs) ab_Mf cal d) : ab_Sd G (ab_Z G xs) (d + 1) (ab_mY mX9_isLetter pX9_isLetter) 0 (bX9_isLetter_0 cal) :=
  sn_iload_n dX9_isLetter_0 rfl <| sn_aload_n dX9_isLetter_1 rfl <| sn_getf dX9_isLetter_2 rfl hinX9 (by decide) w_1000 <| sn_cmp_ge (tg := 34) dX9_isLetter_5 rfl rfl <| sn_aload_n dX9_isLetter_8 rfl <| sn_getf dX9_isLetter_9 rfl hinX9 (by decide) w_999 <| sn_iload_n dX9_isLetter_12 rfl <| sn_iald dX9_isLetter_13 rfl <| sn_bipush dX9_isLetter_14 rfl <| sn_cmp_lt (tg := 34) dX9_isLetter_16 rfl rfl <| sn_aload_n dX9_isLetter_19 rfl <| sn_getf dX9_isLetter_20 rfl hinX9 (by decide) w_999 <| sn_iload_n dX9_isLetter_23 rfl <| sn_iald dX9_isLetter_24 rfl <| sn_bipush dX9_isLetter_25 rfl <| sn_cmp_gt (tg := 34) dX9_isLetter_27 rfl rfl <| sn_iconst dX9_isLetter_30 rfl <| sn_goto (tg := 35) dX9_isLetter_31 rfl rfl
set_option maxRecDepth 100000 in
theorem sX9_isLetter_1 {G : ab_G} {xs : List Int32} {d : Nat} {cal : ab_F} (hcs : ab_CS G (ab_Z G xs) ab_Mf cal d) : ab_Sd G (ab_Z G xs) (d + 1) (ab_mY mX9_isLetter pX9_isLetter) 34 (bX9_isLetter_1 cal) :=
  sn_iconst dX9_isLetter_34 rfl <| sn_next rfl
set_option maxRecDepth 100000 in
theorem sX9_isLetter_2 {G : ab_G} {xs : List Int32} {d : Nat} {cal : ab_F} (hcs : ab_CS G (ab_Z G xs) ab_Mf cal d) : ab_Sd G (ab_Z G xs) (d + 1) (ab_mY mX9_isLetter pX9_isLetter) 35 (bX9_isLetter_2 cal) :=
  sn_ret dX9_isLetter_35 ab_ri_bool
theorem sX9_isLetter {G : ab_G} {xs : List Int32} {d : Nat} {cal : ab_F} (hcs : ab_CS G (ab_Z G xs) ab_Mf cal d) : ab_BS G (ab_Z G xs) (d + 1) (ab_mY mX9_isLetter pX9_isLetter) pX9_isLetter (bX9_isLetter cal) := ⟨sX9_isLetter_0 hcs, sX9_isLetter_1 hcs, sX9_isLetter_2 hcs, trivial⟩
