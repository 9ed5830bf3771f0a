theorem dgX8_fee_0 : decode cX8_fee 0 = .ok (.aload_n 0, 1) ∧ decode cX8_fee 1 = .ok (.getfield 10, 3) ∧ decode cX8_fee 4 = .ok (.invokevirtual 153, 3) ∧ decode cX8_fee 7 = .ok (.istore_n 1, 1) ∧ decode cX8_fee 8 = .ok (.aload_n 0, 1) ∧ decode cX8_fee 9 = .ok (.getfield 10, 3) ∧ decode cX8_fee 12 = .ok (.iconst 1, 1) ∧ decode cX8_fee 13 = .ok (.invokevirtual 202, 3) ∧ decode cX8_fee 16 = .ok (.astore_n 2, 1) ∧ decode cX8_fee 17 = .ok (.aload_n 2, 1) ∧ decode cX8_fee 18 = .ok (.ifnonnull 7, 3) ∧ decode cX8_fee 21 = .ok (.iload_n 1, 1) ∧ decode cX8_fee 22 = .ok (.goto 16, 3) ∧ decode cX8_fee 25 = .ok (.aload_n 2, 1) ∧ decode cX8_fee 26 = .ok (.iload_n 1, 1) ∧ decode cX8_fee 27 = .ok (.aload_n 0, 1) := by decide +kernel
theorem dX8_fee_0 : decode cX8_fee 0 = .ok (.aload_n 0, 1) := dgX8_fee_0.1
theorem dX8_fee_1 : decode cX8_fee 1 = .ok (.getfield 10, 3) := dgX8_fee_0.2.1
theorem dX8_fee_4 : decode cX8_fee 4 = .ok (.invokevirtual 153, 3) := dgX8_fee_0.2.2.1
theorem dX8_fee_7 : decode cX8_fee 7 = .ok (.istore_n 1, 1) := dgX8_fee_0.2.2.2.1
theorem dX8_fee_8 : decode cX8_fee 8 = .ok (.aload_n 0, 1) := dgX8_fee_0.2.2.2.2.1
theorem dX8_fee_9 : decode cX8_fee 9 = .ok (.getfield 10, 3) := dgX8_fee_0.2.2.2.2.2.1
theorem dX8_fee_12 : decode cX8_fee 12 = .ok (.iconst 1, 1) := dgX8_fee_0.2.2.2.2.2.2.1
theorem dX8_fee_13 : decode cX8_fee 13 = .ok (.invokevirtual 202, 3) := dgX8_fee_0.2.2.2.2.2.2.2.1
theorem dX8_fee_16 : decode cX8_fee 16 = .ok (.astore_n 2, 1) := dgX8_fee_0.2.2.2.2.2.2.2.2.1
theorem dX8_fee_17 : decode cX8_fee 17 = .ok (.aload_n 2, 1) := dgX8_fee_0.2.2.2.2.2.2.2.2.2.1
theorem dX8_fee_18 : decode cX8_fee 18 = .ok (.ifnonnull 7, 3) := dgX8_fee_0.2.2.2.2.2.2.2.2.2.2.1
theorem dX8_fee_21 : decode cX8_fee 21 = .ok (.iload_n 1, 1) := dgX8_fee_0.2.2.2.2.2.2.2.2.2.2.2.1
theorem dX8_fee_22 : decode cX8_fee 22 = .ok (.goto 16, 3) := dgX8_fee_0.2.2.2.2.2.2.2.2.2.2.2.2.1
theorem dX8_fee_25 : decode cX8_fee 25 = .ok (.aload_n 2, 1) := dgX8_fee_0.2.2.2.2.2.2.2.2.2.2.2.2.2.1
theorem dX8_fee_26 : decode cX8_fee 26 = .ok (.iload_n 1, 1) := dgX8_fee_0.2.2.2.2.2.2.2.2.2.2.2.2.2.2.1
theorem dX8_fee_27 : decode cX8_fee 27 = .ok (.aload_n 0, 1) := dgX8_fee_0.2.2.2.2.2.2.2.2.2.2.2.2.2.2.2
theorem dgX8_fee_1 : decode cX8_fee 28 = .ok (.getfield 10, 3) ∧ decode cX8_fee 31 = .ok (.invokevirtual 156, 3) ∧ decode cX8_fee 34 = .ok (.iconst 0, 1) ∧ decode cX8_fee 35 = .ok (.invokevirtual 206, 3) ∧ decode cX8_fee 38 = .ok (.ireturn, 1) := by decide +kernel
theorem dX8_fee_28 : decode cX8_fee 28 = .ok (.getfield 10, 3) := dgX8_fee_1.1
theorem dX8_fee_31 : decode cX8_fee 31 = .ok (.invokevirtual 156, 3) := dgX8_fee_1.2.1
theorem dX8_fee_34 : decode cX8_fee 34 = .ok (.iconst 0, 1) := dgX8_fee_1.2.2.1
theorem dX8_fee_35 : decode cX8_fee 35 = .ok (.invokevirtual 206, 3) := dgX8_fee_1.2.2.2.1
theorem dX8_fee_38 : decode cX8_fee 38 = .ok (.ireturn, 1) := dgX8_fee_1.2.2.2.2
abbrev pX8_fee : List Nat := [0, 25, 38]
def bX8_fee_0 (cal : ab_F) : ab_K := o_aload 0 <| o_getf 7 0 <| o_callV cal 46 0 3 <| o_istore 1 <| o_aload 0 <| o_getf 7 0 <| o_push (.int 1) <| o_callV cal 35 1 3 <| o_astore 2 <| o_aload 2 <| o_ifnonnull 1 <| o_iload 1 <| o_goto 2
def bX8_fee_1 (cal : ab_F) : ab_K := o_aload 2 <| o_iload 1 <| o_aload 0 <| o_getf 7 0 <| o_callV cal 47 0 3 <| o_push (.int 0) <| o_callV cal 63 3 5 <| o_goto 2
def bX8_fee_2 (cal : ab_F) : ab_K := o_ret (some .int)
def bX8_fee (cal : ab_F) : List ab_K := [bX8_fee_0 cal, bX8_fee_1 cal, bX8_fee_2 cal]
set_option maxRecDepth 100000 in
theorem sX8_fee_0 {G : ab_G} {xs : List Int32} {d : Nat} {cal : ab_F} (hcs : ab_CS G (ab_Z G xs) ab_Mf cal d) : ab_Sd G (ab_Z G xs) (d + 1) (ab_mY mX8_fee pX8_fee) 0 (bX8_fee_0 cal) :=
  sn_aload_n dX8_fee_0 rfl <| sn_getf dX8_fee_1 rfl hinX8 (by decide) w_285 <| sq_callV mt_46 hcs dX8_fee_4 rfl w_510 w_511 w_512 w_56 w_513 hy_46 hm_46 <| sn_istore_n dX8_fee_7 rfl (by decide) <| sn_aload_n dX8_fee_8 rfl <| sn_getf dX8_fee_9 rfl hinX8 (by decide) w_285 <| sn_iconst dX8_fee_12 rfl <| sq_callV mt_35 hcs dX8_fee_13 rfl w_647 w_334 w_335 w_56 w_336 hy_35 hm_35 <| sn_astore_n dX8_fee_16 rfl (by decide) <| sn_aload_n dX8_fee_17 rfl <| sn_ifnonnull (tg := 25) dX8_fee_18 rfl rfl <| sn_iload_n dX8_fee_21 rfl <| sn_goto (tg := 38) dX8_fee_22 rfl rfl
set_option maxRecDepth 100000 in
theorem sX8_fee_1 {G : ab_G} {xs : List Int32} {d : Nat} {cal : ab_F} (hcs : ab_CS G (ab_Z G xs) ab_Mf cal d) : ab_Sd G (ab_Z G xs) (d + 1) (ab_mY mX8_fee pX8_fee) 25 (bX8_fee_1 cal) :=
  sn_aload_n dX8_fee_25 rfl <| sn_iload_n dX8_fee_26 rfl <| sn_aload_n dX8_fee_27 rfl <| sn_getf dX8_fee_28 rfl hinX8 (by decide) w_285 <| sq_callV mt_47 hcs dX8_fee_31 rfl w_514 w_515 w_516 w_56 w_517 hy_47 hm_47 <| sn_iconst dX8_fee_34 rfl <| sq_callV mt_63 hcs dX8_fee_35 rfl w_648 w_356 w_357 w_65 w_358 hy_63 hm_63 <| sn_next rfl
set_option maxRecDepth 100000 in
theorem sX8_fee_2 {G : ab_G} {xs : List Int32} {d : Nat} {cal : ab_F} (hcs : ab_CS G (ab_Z G xs) ab_Mf cal d) : ab_Sd G (ab_Z G xs) (d + 1) (ab_mY mX8_fee pX8_fee) 38 (bX8_fee_2 cal) :=
  sn_ret dX8_fee_38 ab_ri_int
theorem sX8_fee {G : ab_G} {xs : List Int32} {d : Nat} {cal : ab_F} (hcs : ab_CS G (ab_Z G xs) ab_Mf cal d) : ab_BS G (ab_Z G xs) (d + 1) (ab_mY mX8_fee pX8_fee) pX8_fee (bX8_fee cal) := ⟨sX8_fee_0 hcs, sX8_fee_1 hcs, sX8_fee_2 hcs, trivial⟩
theorem dgX8_fine_0 : decode cX8_fine 0 = .ok (.aload_n 0, 1) ∧ decode cX8_fine 1 = .ok (.iload_n 1, 1) ∧ decode cX8_fine 2 = .ok (.invokevirtual 74, 3) ∧ decode cX8_fine 5 = .ok (.ifCond .ne 6, 3) ∧ decode cX8_fine 8 = .ok (.ldc 64, 2) ∧ decode cX8_fine 10 = .ok (.ireturn, 1) ∧ decode cX8_fine 11 = .ok (.aload_n 0, 1) ∧ decode cX8_fine 12 = .ok (.getfield 10, 3) ∧ decode cX8_fine 15 = .ok (.iconst 2, 1) ∧ decode cX8_fine 16 = .ok (.invokevirtual 202, 3) ∧ decode cX8_fine 19 = .ok (.astore_n 2, 1) ∧ decode cX8_fine 20 = .ok (.aload_n 2, 1) ∧ decode cX8_fine 21 = .ok (.ifnonnull 15, 3) ∧ decode cX8_fine 24 = .ok (.aload_n 0, 1) ∧ decode cX8_fine 25 = .ok (.getfield 10, 3) ∧ decode cX8_fine 28 = .ok (.getfield 81, 3) := by decide +kernel
theorem dX8_fine_0 : decode cX8_fine 0 = .ok (.aload_n 0, 1) := dgX8_fine_0.1
theorem dX8_fine_1 : decode cX8_fine 1 = .ok (.iload_n 1, 1) := dgX8_fine_0.2.1
theorem dX8_fine_2 : decode cX8_fine 2 = .ok (.invokevirtual 74, 3) := dgX8_fine_0.2.2.1
theorem dX8_fine_5 : decode cX8_fine 5 = .ok (.ifCond .ne 6, 3) := dgX8_fine_0.2.2.2.1
theorem dX8_fine_8 : decode cX8_fine 8 = .ok (.ldc 64, 2) := dgX8_fine_0.2.2.2.2.1
theorem dX8_fine_10 : decode cX8_fine 10 = .ok (.ireturn, 1) := dgX8_fine_0.2.2.2.2.2.1
theorem dX8_fine_11 : decode cX8_fine 11 = .ok (.aload_n 0, 1) := dgX8_fine_0.2.2.2.2.2.2.1
theorem dX8_fine_12 : decode cX8_fine 12 = .ok (.getfield 10, 3) := dgX8_fine_0.2.2.2.2.2.2.2.1
theorem dX8_fine_15 : decode cX8_fine 15 = .ok (.iconst 2, 1) := dgX8_fine_0.2.2.2.2.2.2.2.2.1
theorem dX8_fine_16 : decode cX8_fine 16 = .ok (.invokevirtual 202, 3) := dgX8_fine_0.2.2.2.2.2.2.2.2.2.1
theorem dX8_fine_19 : decode cX8_fine 19 = .ok (.astore_n 2, 1) := dgX8_fine_0.2.2.2.2.2.2.2.2.2.2.1
theorem dX8_fine_20 : decode cX8_fine 20 = .ok (.aload_n 2, 1) := dgX8_fine_0.2.2.2.2.2.2.2.2.2.2.2.1
theorem dX8_fine_21 : decode cX8_fine 21 = .ok (.ifnonnull 15, 3) := dgX8_fine_0.2.2.2.2.2.2.2.2.2.2.2.2.1
theorem dX8_fine_24 : decode cX8_fine 24 = .ok (.aload_n 0, 1) := dgX8_fine_0.2.2.2.2.2.2.2.2.2.2.2.2.2.1
theorem dX8_fine_25 : decode cX8_fine 25 = .ok (.getfield 10, 3) := dgX8_fine_0.2.2.2.2.2.2.2.2.2.2.2.2.2.2.1
theorem dX8_fine_28 : decode cX8_fine 28 = .ok (.getfield 81, 3) := dgX8_fine_0.2.2.2.2.2.2.2.2.2.2.2.2.2.2.2
theorem dgX8_fine_1 : decode cX8_fine 31 = .ok (.iload_n 1, 1) ∧ decode cX8_fine 32 = .ok (.iaload, 1) ∧ decode cX8_fine 33 = .ok (.goto 34, 3) ∧ decode cX8_fine 36 = .ok (.aload_n 2, 1) ∧ decode cX8_fine 37 = .ok (.aload_n 0, 1) ∧ decode cX8_fine 38 = .ok (.getfield 10, 3) ∧ decode cX8_fine 41 = .ok (.getfield 81, 3) ∧ decode cX8_fine 44 = .ok (.iload_n 1, 1) ∧ decode cX8_fine 45 = .ok (.iaload, 1) ∧ decode cX8_fine 46 = .ok (.aload_n 0, 1) ∧ decode cX8_fine 47 = .ok (.getfield 10, 3) ∧ decode cX8_fine 50 = .ok (.getfield 84, 3) ∧ decode cX8_fine 53 = .ok (.iload_n 1, 1) ∧ decode cX8_fine 54 = .ok (.iaload, 1) ∧ decode cX8_fine 55 = .ok (.aload_n 0, 1) ∧ decode cX8_fine 56 = .ok (.getfield 10, 3) := by decide +kernel
theorem dX8_fine_31 : decode cX8_fine 31 = .ok (.iload_n 1, 1) := dgX8_fine_1.1
theorem dX8_fine_32 : decode cX8_fine 32 = .ok (.iaload, 1) := dgX8_fine_1.2.1
theorem dX8_fine_33 : decode cX8_fine 33 = .ok (.goto 34, 3) := dgX8_fine_1.2.2.1
theorem dX8_fine_36 : decode cX8_fine 36 = .ok (.aload_n 2, 1) := dgX8_fine_1.2.2.2.1
theorem dX8_fine_37 : decode cX8_fine 37 = .ok (.aload_n 0, 1) := dgX8_fine_1.2.2.2.2.1
theorem dX8_fine_38 : decode cX8_fine 38 = .ok (.getfield 10, 3) := dgX8_fine_1.2.2.2.2.2.1
theorem dX8_fine_41 : decode cX8_fine 41 = .ok (.getfield 81, 3) := dgX8_fine_1.2.2.2.2.2.2.1
theorem dX8_fine_44 : decode cX8_fine 44 = .ok (.iload_n 1, 1) := dgX8_fine_1.2.2.2.2.2.2.2.1
theorem dX8_fine_45 : decode cX8_fine 45 = .ok (.iaload, 1) := dgX8_fine_1.2.2.2.2.2.2.2.2.1
theorem dX8_fine_46 : decode cX8_fine 46 = .ok (.aload_n 0, 1) := dgX8_fine_1.2.2.2.2.2.2.2.2.2.1
theorem dX8_fine_47 : decode cX8_fine 47 = .ok (.getfield 10, 3) := dgX8_fine_1.2.2.2.2.2.2.2.2.2.2.1
theorem dX8_fine_50 : decode cX8_fine 50 = .ok (.getfield 84, 3) := dgX8_fine_1.2.2.2.2.2.2.2.2.2.2.2.1
theorem dX8_fine_53 : decode cX8_fine 53 = .ok (.iload_n 1, 1) := dgX8_fine_1.2.2.2.2.2.2.2.2.2.2.2.2.1
theorem dX8_fine_54 : decode cX8_fine 54 = .ok (.iaload, 1) := dgX8_fine_1.2.2.2.2.2.2.2.2.2.2.2.2.2.1
theorem dX8_fine_55 : decode cX8_fine 55 = .ok (.aload_n 0, 1) := dgX8_fine_1.2.2.2.2.2.2.2.2.2.2.2.2.2.2.1
theorem dX8_fine_56 : decode cX8_fine 56 = .ok (.getfield 10, 3) := dgX8_fine_1.2.2.2.2.2.2.2.2.2.2.2.2.2.2.2
theorem dgX8_fine_2 : decode cX8_fine 59 = .ok (.getfield 90, 3) ∧ decode cX8_fine 62 = .ok (.iload_n 1, 1) ∧ decode cX8_fine 63 = .ok (.iaload, 1) ∧ decode cX8_fine 64 = .ok (.invokevirtual 206, 3) ∧ decode cX8_fine 67 = .ok (.ireturn, 1) := by decide +kernel
theorem dX8_fine_59 : decode cX8_fine 59 = .ok (.getfield 90, 3) := dgX8_fine_2.1
theorem dX8_fine_62 : decode cX8_fine 62 = .ok (.iload_n 1, 1) := dgX8_fine_2.2.1
theorem dX8_fine_63 : decode cX8_fine 63 = .ok (.iaload, 1) := dgX8_fine_2.2.2.1
theorem dX8_fine_64 : decode cX8_fine 64 = .ok (.invokevirtual 206, 3) := dgX8_fine_2.2.2.2.1
theorem dX8_fine_67 : decode cX8_fine 67 = .ok (.ireturn, 1) := dgX8_fine_2.2.2.2.2
abbrev pX8_fine : List Nat := [0, 11, 36, 67]
def bX8_fine_0 (cal : ab_F) : ab_K := o_aload 0 <| o_iload 1 <| o_callV cal 119 1 7 <| o_if (fun x => decide (¬ x = 0)) 1 <| o_push (.int (-1000000001)) <| o_ret (some .int)
def bX8_fine_1 (cal : ab_F) : ab_K := o_aload 0 <| o_getf 7 0 <| o_push (.int 2) <| o_callV cal 35 1 3 <| o_astore 2 <| o_aload 2 <| o_ifnonnull 2 <| o_aload 0 <| o_getf 7 0 <| o_getf 3 1 <| o_iload 1 <| o_iald 0 <| o_goto 3
def bX8_fine_2 (cal : ab_F) : ab_K := o_aload 2 <| o_aload 0 <| o_getf 7 0 <| o_getf 3 1 <| o_iload 1 <| o_iald 0 <| o_aload 0 <| o_getf 7 0 <| o_getf 3 2 <| o_iload 1 <| o_iald 0 <| o_aload 0 <| o_getf 7 0 <| o_getf 3 4 <| o_iload 1 <| o_iald 0 <| o_callV cal 63 3 5 <| o_goto 3
def bX8_fine_3 (cal : ab_F) : ab_K := o_ret (some .int)
def bX8_fine (cal : ab_F) : List ab_K := [bX8_fine_0 cal, bX8_fine_1 cal, bX8_fine_2 cal, bX8_fine_3 cal]
set_option maxRecDepth 100000 in
theorem sX8_fine_0 {G : ab_G} {xs : List Int32} {d : Nat} {cal : ab_F} (hcs : ab_CS G (ab_Z G xs) ab_Mf cal d) : ab_Sd G (ab_Z G xs) (d + 1) (ab_mY mX8_fine pX8_fine) 0 (bX8_fine_0 cal) :=
  sn_aload_n dX8_fine_0 rfl <| sn_iload_n dX8_fine_1 rfl <| sq_callV mt_119 hcs dX8_fine_2 rfl w_386 w_388 w_0 w_55 w_389 hy_119 hm_119 <| sn_if_ne (tg := 11) dX8_fine_5 rfl rfl <| sn_ldc dX8_fine_8 w_323 <| sn_ret dX8_fine_10 ab_ri_int
set_option maxRecDepth 100000 in
theorem sX8_fine_1 {G : ab_G} {xs : List Int32} {d : Nat} {cal : ab_F} (hcs : ab_CS G (ab_Z G xs) ab_Mf cal d) : ab_Sd G (ab_Z G xs) (d + 1) (ab_mY mX8_fine pX8_fine) 11 (bX8_fine_1 cal) :=
  sn_aload_n dX8_fine_11 rfl <| sn_getf dX8_fine_12 rfl hinX8 (by decide) w_285 <| sn_iconst dX8_fine_15 rfl <| sq_callV mt_35 hcs dX8_fine_16 rfl w_647 w_334 w_335 w_56 w_336 hy_35 hm_35 <| sn_astore_n dX8_fine_19 rfl (by decide) <| sn_aload_n dX8_fine_20 rfl <| sn_ifnonnull (tg := 36) dX8_fine_21 rfl rfl <| sn_aload_n dX8_fine_24 rfl <| sn_getf dX8_fine_25 rfl hinX8 (by decide) w_285 <| sn_getf dX8_fine_28 rfl hinX4 (by decide) w_96 <| sn_iload_n dX8_fine_31 rfl <| sn_iald dX8_fine_32 rfl <| sn_goto (tg := 67) dX8_fine_33 rfl rfl
set_option maxRecDepth 100000 in
theorem sX8_fine_2 {G : ab_G} {xs : List Int32} {d : Nat} {cal : ab_F} (hcs : ab_CS G (ab_Z G xs) ab_Mf cal d) : ab_Sd G (ab_Z G xs) (d + 1) (ab_mY mX8_fine pX8_fine) 36 (bX8_fine_2 cal) :=
  sn_aload_n dX8_fine_36 rfl <| sn_aload_n dX8_fine_37 rfl <| sn_getf dX8_fine_38 rfl hinX8 (by decide) w_285 <| sn_getf dX8_fine_41 rfl hinX4 (by decide) w_96 <| sn_iload_n dX8_fine_44 rfl <| sn_iald dX8_fine_45 rfl <| sn_aload_n dX8_fine_46 rfl <| sn_getf dX8_fine_47 rfl hinX8 (by decide) w_285 <| sn_getf dX8_fine_50 rfl hinX4 (by decide) w_98 <| sn_iload_n dX8_fine_53 rfl <| sn_iald dX8_fine_54 rfl <| sn_aload_n dX8_fine_55 rfl <| sn_getf dX8_fine_56 rfl hinX8 (by decide) w_285 <| sn_getf dX8_fine_59 rfl hinX4 (by decide) w_103 <| sn_iload_n dX8_fine_62 rfl <| sn_iald dX8_fine_63 rfl <| sq_callV mt_63 hcs dX8_fine_64 rfl w_648 w_356 w_357 w_65 w_358 hy_63 hm_63 <| sn_next rfl
set_option maxRecDepth 100000 in
theorem sX8_fine_3 {G : ab_G} {xs : List Int32} {d : Nat} {cal : ab_F} (hcs : ab_CS G (ab_Z G xs) ab_Mf cal d) : ab_Sd G (ab_Z G xs) (d + 1) (ab_mY mX8_fine pX8_fine) 67 (bX8_fine_3 cal) :=
  sn_ret dX8_fine_67 ab_ri_int
theorem sX8_fine {G : ab_G} {xs : List Int32} {d : Nat} {cal : ab_F} (hcs : ab_CS G (ab_Z G xs) ab_Mf cal d) : ab_BS G (ab_Z G xs) (d + 1) (ab_mY mX8_fine pX8_fine) pX8_fine (bX8_fine cal) := ⟨sX8_fine_0 hcs, sX8_fine_1 hcs, sX8_fine_2 hcs, sX8_fine_3 hcs, trivial⟩
theorem dgX8_feed_0 : decode cX8_feed 0 = .ok (.aload_n 0, 1) ∧ decode cX8_feed 1 = .ok (.getfield 29, 3) ∧ decode cX8_feed 4 = .ok (.getfield 211, 3) ∧ decode cX8_feed 7 = .ok (.bipush 12, 2) ∧ decode cX8_feed 9 = .ok (.iadd, 1) ∧ decode cX8_feed 10 = .ok (.bipush 96, 2) ∧ decode cX8_feed 12 = .ok (.if_icmp .le 6, 3) ∧ decode cX8_feed 15 = .ok (.ldc 69, 2) ∧ decode cX8_feed 17 = .ok (.ireturn, 1) ∧ decode cX8_feed 18 = .ok (.aload_n 0, 1) ∧ decode cX8_feed 19 = .ok (.getfield 29, 3) ∧ decode cX8_feed 22 = .ok (.iload_n 1, 1) ∧ decode cX8_feed 23 = .ok (.invokevirtual 214, 3) ∧ decode cX8_feed 26 = .ok (.aload_n 0, 1) ∧ decode cX8_feed 27 = .ok (.getfield 29, 3) ∧ decode cX8_feed 30 = .ok (.iload_n 2, 1) := by decide +kernel
theorem dX8_feed_0 : decode cX8_feed 0 = .ok (.aload_n 0, 1) := dgX8_feed_0.1
theorem dX8_feed_1 : decode cX8_feed 1 = .ok (.getfield 29, 3) := dgX8_feed_0.2.1
theorem dX8_feed_4 : decode cX8_feed 4 = .ok (.getfield 211, 3) := dgX8_feed_0.2.2.1
theorem dX8_feed_7 : decode cX8_feed 7 = .ok (.bipush 12, 2) := dgX8_feed_0.2.2.2.1
theorem dX8_feed_9 : decode cX8_feed 9 = .ok (.iadd, 1) := dgX8_feed_0.2.2.2.2.1
theorem dX8_feed_10 : decode cX8_feed 10 = .ok (.bipush 96, 2) := dgX8_feed_0.2.2.2.2.2.1
theorem dX8_feed_12 : decode cX8_feed 12 = .ok (.if_icmp .le 6, 3) := dgX8_feed_0.2.2.2.2.2.2.1
theorem dX8_feed_15 : decode cX8_feed 15 = .ok (.ldc 69, 2) := dgX8_feed_0.2.2.2.2.2.2.2.1
theorem dX8_feed_17 : decode cX8_feed 17 = .ok (.ireturn, 1) := dgX8_feed_0.2.2.2.2.2.2.2.2.1
theorem dX8_feed_18 : decode cX8_feed 18 = .ok (.aload_n 0, 1) := dgX8_feed_0.2.2.2.2.2.2.2.2.2.1
theorem dX8_feed_19 : decode cX8_feed 19 = .ok (.getfield 29, 3) := dgX8_feed_0.2.2.2.2.2.2.2.2.2.2.1
theorem dX8_feed_22 : decode cX8_feed 22 = .ok (.iload_n 1, 1) := dgX8_feed_0.2.2.2.2.2.2.2.2.2.2.2.1
theorem dX8_feed_23 : decode cX8_feed 23 = .ok (.invokevirtual 214, 3) := dgX8_feed_0.2.2.2.2.2.2.2.2.2.2.2.2.1
theorem dX8_feed_26 : decode cX8_feed 26 = .ok (.aload_n 0, 1) := dgX8_feed_0.2.2.2.2.2.2.2.2.2.2.2.2.2.1
theorem dX8_feed_27 : decode cX8_feed 27 = .ok (.getfield 29, 3) := dgX8_feed_0.2.2.2.2.2.2.2.2.2.2.2.2.2.2.1
theorem dX8_feed_30 : decode cX8_feed 30 = .ok (.iload_n 2, 1) := dgX8_feed_0.2.2.2.2.2.2.2.2.2.2.2.2.2.2.2
theorem dgX8_feed_1 : decode cX8_feed 31 = .ok (.invokevirtual 214, 3) ∧ decode cX8_feed 34 = .ok (.aload_n 0, 1) ∧ decode cX8_feed 35 = .ok (.getfield 29, 3) ∧ decode cX8_feed 38 = .ok (.iload_n 3, 1) ∧ decode cX8_feed 39 = .ok (.invokevirtual 214, 3) ∧ decode cX8_feed 42 = .ok (.aload_n 0, 1) ∧ decode cX8_feed 43 = .ok (.getfield 29, 3) ∧ decode cX8_feed 46 = .ok (.getfield 211, 3) ∧ decode cX8_feed 49 = .ok (.ireturn, 1) := by decide +kernel
theorem dX8_feed_31 : decode cX8_feed 31 = .ok (.invokevirtual 214, 3) := dgX8_feed_1.1
theorem dX8_feed_34 : decode cX8_feed 34 = .ok (.aload_n 0, 1) := dgX8_feed_1.2.1
theorem dX8_feed_35 : decode cX8_feed 35 = .ok (.getfield 29, 3) := dgX8_feed_1.2.2.1
theorem dX8_feed_38 : decode cX8_feed 38 = .ok (.iload_n 3, 1) := dgX8_feed_1.2.2.2.1
theorem dX8_feed_39 : decode cX8_feed 39 = .ok (.invokevirtual 214, 3) := dgX8_feed_1.2.2.2.2.1
theorem dX8_feed_42 : decode cX8_feed 42 = .ok (.aload_n 0, 1) := dgX8_feed_1.2.2.2.2.2.1
theorem dX8_feed_43 : decode cX8_feed 43 = .ok (.getfield 29, 3) := dgX8_feed_1.2.2.2.2.2.2.1
theorem dX8_feed_46 : decode cX8_feed 46 = .ok (.getfield 211, 3) := dgX8_feed_1.2.2.2.2.2.2.2.1
theorem dX8_feed_49 : decode cX8_feed 49 = .ok (.ireturn, 1) := dgX8_feed_1.2.2.2.2.2.2.2.2
abbrev pX8_feed : List Nat := [0, 18]
def bX8_feed_0 (cal : ab_F) : ab_K := o_aload 0 <| o_getf 7 3 <| o_getf 4 1 <| o_push (.int 12) <| o_bin (fun x y => x + y) <| o_push (.int 96) <| o_cmp (fun x y => decide (x ≤ y)) 1 <| o_push (.int (-1000000003)) <| o_ret (some .int)
def bX8_feed_1 (cal : ab_F) : ab_K := o_aload 0 <| o_getf 7 3 <| o_iload 1 <| o_callV cal 61 1 4 <| o_aload 0 <| o_getf 7 3 <| o_iload 2 <| o_callV cal 61 1 4 <| o_aload 0 <| o_getf 7 3 <| o_iload 3 <| o_callV cal 61 1 4 <| o_aload 0 <| o_getf 7 3 <| o_getf 4 1 <| o_ret (some .int)
def bX8_feed (cal : ab_F) : List ab_K := [bX8_feed_0 cal, bX8_feed_1 cal]
set_option maxRecDepth 100000 in
theorem sX8_feed_0 {G : ab_G} {xs : List Int32} {d : Nat} {cal : ab_F} (hcs : ab_CS G (ab_Z G xs) ab_Mf cal d) : ab_Sd G (ab_Z G xs) (d + 1) (ab_mY mX8_feed pX8_feed) 0 (bX8_feed_0 cal) :=
  sn_aload_n dX8_feed_0 rfl <| sn_getf dX8_feed_1 rfl hinX8 (by decide) w_288 <| sn_getf dX8_feed_4 rfl hinX5 (by decide) w_183 <| sn_bipush dX8_feed_7 rfl <| sn_iadd dX8_feed_9 <| sn_bipush dX8_feed_10 rfl <| sn_cmp_le (tg := 18) dX8_feed_12 rfl rfl <| sn_ldc dX8_feed_15 w_324 <| sn_ret dX8_feed_17 ab_ri_int
set_option maxRecDepth 100000 in
theorem sX8_feed_1 {G : ab_G} {xs : List Int32} {d : Nat} {cal : ab_F} (hcs : ab_CS G (ab_Z G xs) ab_Mf cal d) : ab_Sd G (ab_Z G xs) (d + 1) (ab_mY mX8_feed pX8_feed) 18 (bX8_feed_1 cal) :=
  sn_aload_n dX8_feed_18 rfl <| sn_getf dX8_feed_19 rfl hinX8 (by decide) w_288 <| sn_iload_n dX8_feed_22 rfl <| sq_callV mt_61 hcs dX8_feed_23 rfl w_657 w_658 w_659 w_59 w_660 hy_61 hm_61 <| sn_aload_n dX8_feed_26 rfl <| sn_getf dX8_feed_27 rfl hinX8 (by decide) w_288 <| sn_iload_n dX8_feed_30 rfl <| sq_callV mt_61 hcs dX8_feed_31 rfl w_657 w_658 w_659 w_59 w_660 hy_61 hm_61 <| sn_aload_n dX8_feed_34 rfl <| sn_getf dX8_feed_35 rfl hinX8 (by decide) w_288 <| sn_iload_n dX8_feed_38 rfl <| sq_callV mt_61 hcs dX8_feed_39 rfl w_657 w_658 w_659 w_59 w_660 hy_61 hm_61 <| sn_aload_n dX8_feed_42 rfl <| sn_getf dX8_feed_43 rfl hinX8 (by decide) w_288 <| sn_getf dX8_feed_46 rfl hinX5 (by decide) w_183 <| sn_ret dX8_feed_49 ab_ri_int
theorem sX8_feed {G : ab_G} {xs : List Int32} {d : Nat} {cal : ab_F} (hcs : ab_CS G (ab_Z G xs) ab_Mf cal d) : ab_BS G (ab_Z G xs) (d + 1) (ab_mY mX8_feed pX8_feed) pX8_feed (bX8_feed cal) := ⟨sX8_feed_0 hcs, sX8_feed_1 hcs, trivial⟩
theorem dgX8_trim_0 : decode cX8_trim 0 = .ok (.iload_n 1, 1) ∧ decode cX8_trim 1 = .ok (.iconst 0, 1) ∧ decode cX8_trim 2 = .ok (.aload_n 0, 1) ∧ decode cX8_trim 3 = .ok (.getfield 29, 3) ∧ decode cX8_trim 6 = .ok (.getfield 211, 3) ∧ decode cX8_trim 9 = .ok (.invokestatic 60, 3) ∧ decode cX8_trim 12 = .ok (.ifCond .ne 6, 3) ∧ decode cX8_trim 15 = .ok (.ldc 64, 2) ∧ decode cX8_trim 17 = .ok (.ireturn, 1) ∧ decode cX8_trim 18 = .ok (.aload_n 0, 1) ∧ decode cX8_trim 19 = .ok (.getfield 29, 3) ∧ decode cX8_trim 22 = .ok (.iload_n 1, 1) ∧ decode cX8_trim 23 = .ok (.putfield 211, 3) ∧ decode cX8_trim 26 = .ok (.iload_n 1, 1) ∧ decode cX8_trim 27 = .ok (.ireturn, 1) := by decide +kernel
theorem dX8_trim_0 : decode cX8_trim 0 = .ok (.iload_n 1, 1) := dgX8_trim_0.1
theorem dX8_trim_1 : decode cX8_trim 1 = .ok (.iconst 0, 1) := dgX8_trim_0.2.1
theorem dX8_trim_2 : decode cX8_trim 2 = .ok (.aload_n 0, 1) := dgX8_trim_0.2.2.1
theorem dX8_trim_3 : decode cX8_trim 3 = .ok (.getfield 29, 3) := dgX8_trim_0.2.2.2.1
theorem dX8_trim_6 : decode cX8_trim 6 = .ok (.getfield 211, 3) := dgX8_trim_0.2.2.2.2.1
theorem dX8_trim_9 : decode cX8_trim 9 = .ok (.invokestatic 60, 3) := dgX8_trim_0.2.2.2.2.2.1
theorem dX8_trim_12 : decode cX8_trim 12 = .ok (.ifCond .ne 6, 3) := dgX8_trim_0.2.2.2.2.2.2.1
theorem dX8_trim_15 : decode cX8_trim 15 = .ok (.ldc 64, 2) := dgX8_trim_0.2.2.2.2.2.2.2.1
theorem dX8_trim_17 : decode cX8_trim 17 = .ok (.ireturn, 1) := dgX8_trim_0.2.2.2.2.2.2.2.2.1
theorem dX8_trim_18 : decode cX8_trim 18 = .ok (.aload_n 0, 1) := dgX8_trim_0.2.2.2.2.2.2.2.2.2.1
theorem dX8_trim_19 : decode cX8_trim 19 = .ok (.getfield 29, 3) := dgX8_trim_0.2.2.2.2.2.2.2.2.2.2.1
theorem dX8_trim_22 : decode cX8_trim 22 = .ok (.iload_n 1, 1) := dgX8_trim_0.2.2.2.2.2.2.2.2.2.2.2.1
theorem dX8_trim_23 : decode cX8_trim 23 = .ok (.putfield 211, 3) := dgX8_trim_0.2.2.2.2.2.2.2.2.2.2.2.2.1
theorem dX8_trim_26 : decode cX8_trim 26 = .ok (.iload_n 1, 1) := dgX8_trim_0.2.2.2.2.2.2.2.2.2.2.2.2.2.1
theorem dX8_trim_27 : decode cX8_trim 27 = .ok (.ireturn, 1) := dgX8_trim_0.2.2.2.2.2.2.2.2.2.2.2.2.2.2
abbrev pX8_trim : List Nat := [0, 18]
def bX8_trim_0 (cal : ab_F) : ab_K := o_iload 1 <| o_push (.int 0) <| o_aload 0 <| o_getf 7 3 <| o_getf 4 1 <| o_callS cal 123 3 <| o_if (fun x => decide (¬ x = 0)) 1 <| o_push (.int (-1000000001)) <| o_ret (some .int)
def bX8_trim_1 (cal : ab_F) : ab_K := o_aload 0 <| o_getf 7 3 <| o_iload 1 <| o_putI 4 1 <| o_iload 1 <| o_ret (some .int)
def bX8_trim (cal : ab_F) : List ab_K := [bX8_trim_0 cal, bX8_trim_1 cal]
set_option maxRecDepth 100000 in
theorem sX8_trim_0 {G : ab_G} {xs : List Int32} {d : Nat} {cal : ab_F} (hcs : ab_CS G (ab_Z G xs) ab_Mf cal d) : ab_Sd G (ab_Z G xs) (d + 1) (ab_mY mX8_trim pX8_trim) 0 (bX8_trim_0 cal) :=
  sn_iload_n dX8_trim_0 rfl <| sn_iconst dX8_trim_1 rfl <| sn_aload_n dX8_trim_2 rfl <| sn_getf dX8_trim_3 rfl hinX8 (by decide) w_288 <| sn_getf dX8_trim_6 rfl hinX5 (by decide) w_183 <| sq_callS mt_123 hcs dX8_trim_9 w_320 w_321 w_55 w_322 hy_123 hm_123 <| sn_if_ne (tg := 18) dX8_trim_12 rfl rfl <| sn_ldc dX8_trim_15 w_323 <| sn_ret dX8_trim_17 ab_ri_int
set_option maxRecDepth 100000 in
theorem sX8_trim_1 {G : ab_G} {xs : List Int32} {d : Nat} {cal : ab_F} (hcs : ab_CS G (ab_Z G xs) ab_Mf cal d) : ab_Sd G (ab_Z G xs) (d + 1) (ab_mY mX8_trim pX8_trim) 18 (bX8_trim_1 cal) :=
  sn_aload_n dX8_trim_18 rfl <| sn_getf dX8_trim_19 rfl hinX8 (by decide) w_288 <| sn_iload_n dX8_trim_22 rfl <| sn_putI tyX5 tyX5_ok nmX5 dX8_trim_23 rfl hinX5 (by decide) w_183 (Or.inl rfl) (tyX5_ok 1 (by decide)) <| sn_iload_n dX8_trim_26 rfl <| sn_ret dX8_trim_27 ab_ri_int
theorem sX8_trim {G : ab_G} {xs : List Int32} {d : Nat} {cal : ab_F} (hcs : ab_CS G (ab_Z G xs) ab_Mf cal d) : ab_BS G (ab_Z G xs) (d + 1) (ab_mY mX8_trim pX8_trim) pX8_trim (bX8_trim cal) := ⟨sX8_trim_0 hcs, sX8_trim_1 hcs, trivial⟩
theorem dgX8_text_0 : decode cX8_text 0 = .ok (.aload_n 0, 1) ∧ decode cX8_text 1 = .ok (.getfield 38, 3) ∧ decode cX8_text 4 = .ok (.invokevirtual 217, 3) ∧ decode cX8_text 7 = .ok (.astore_n 1, 1) ∧ decode cX8_text 8 = .ok (.aload_n 0, 1) ∧ decode cX8_text 9 = .ok (.getfield 29, 3) ∧ decode cX8_text 12 = .ok (.iconst 0, 1) ∧ decode cX8_text 13 = .ok (.putfield 211, 3) ∧ decode cX8_text 16 = .ok (.aload_n 1, 1) ∧ decode cX8_text 17 = .ok (.ifnonnull 14, 3) ∧ decode cX8_text 20 = .ok (.bipush (-100), 2) ∧ decode cX8_text 22 = .ok (.aload_n 0, 1) ∧ decode cX8_text 23 = .ok (.getfield 38, 3) ∧ decode cX8_text 26 = .ok (.getfield 221, 3) ∧ decode cX8_text 29 = .ok (.isub, 1) ∧ decode cX8_text 30 = .ok (.ireturn, 1) := by decide +kernel
theorem dX8_text_0 : decode cX8_text 0 = .ok (.aload_n 0, 1) := dgX8_text_0.1
theorem dX8_text_1 : decode cX8_text 1 = .ok (.getfield 38, 3) := dgX8_text_0.2.1
theorem dX8_text_4 : decode cX8_text 4 = .ok (.invokevirtual 217, 3) := dgX8_text_0.2.2.1
theorem dX8_text_7 : decode cX8_text 7 = .ok (.astore_n 1, 1) := dgX8_text_0.2.2.2.1
theorem dX8_text_8 : decode cX8_text 8 = .ok (.aload_n 0, 1) := dgX8_text_0.2.2.2.2.1
theorem dX8_text_9 : decode cX8_text 9 = .ok (.getfield 29, 3) := dgX8_text_0.2.2.2.2.2.1
theorem dX8_text_12 : decode cX8_text 12 = .ok (.iconst 0, 1) := dgX8_text_0.2.2.2.2.2.2.1
theorem dX8_text_13 : decode cX8_text 13 = .ok (.putfield 211, 3) := dgX8_text_0.2.2.2.2.2.2.2.1
theorem dX8_text_16 : decode cX8_text 16 = .ok (.aload_n 1, 1) := dgX8_text_0.2.2.2.2.2.2.2.2.1
theorem dX8_text_17 : decode cX8_text 17 = .ok (.ifnonnull 14, 3) := dgX8_text_0.2.2.2.2.2.2.2.2.2.1
theorem dX8_text_20 : decode cX8_text 20 = .ok (.bipush (-100), 2) := dgX8_text_0.2.2.2.2.2.2.2.2.2.2.1
theorem dX8_text_22 : decode cX8_text 22 = .ok (.aload_n 0, 1) := dgX8_text_0.2.2.2.2.2.2.2.2.2.2.2.1
theorem dX8_text_23 : decode cX8_text 23 = .ok (.getfield 38, 3) := dgX8_text_0.2.2.2.2.2.2.2.2.2.2.2.2.1
theorem dX8_text_26 : decode cX8_text 26 = .ok (.getfield 221, 3) := dgX8_text_0.2.2.2.2.2.2.2.2.2.2.2.2.2.1
theorem dX8_text_29 : decode cX8_text 29 = .ok (.isub, 1) := dgX8_text_0.2.2.2.2.2.2.2.2.2.2.2.2.2.2.1
theorem dX8_text_30 : decode cX8_text 30 = .ok (.ireturn, 1) := dgX8_text_0.2.2.2.2.2.2.2.2.2.2.2.2.2.2.2
theorem dgX8_text_1 : decode cX8_text 31 = .ok (.aload_n 0, 1) ∧ decode cX8_text 32 = .ok (.getfield 10, 3) ∧ decode cX8_text 35 = .ok (.getfield 224, 3) ∧ decode cX8_text 38 = .ok (.bipush 14, 2) ∧ decode cX8_text 40 = .ok (.if_icmp .lt 6, 3) ∧ decode cX8_text 43 = .ok (.ldc 69, 2) ∧ decode cX8_text 45 = .ok (.ireturn, 1) ∧ decode cX8_text 46 = .ok (.aload_n 0, 1) ∧ decode cX8_text 47 = .ok (.getfield 10, 3) ∧ decode cX8_text 50 = .ok (.aload_n 1, 1) ∧ decode cX8_text 51 = .ok (.invokevirtual 227, 3) ∧ decode cX8_text 54 = .ok (.ireturn, 1) := by decide +kernel
theorem dX8_text_31 : decode cX8_text 31 = .ok (.aload_n 0, 1) := dgX8_text_1.1
theorem dX8_text_32 : decode cX8_text 32 = .ok (.getfield 10, 3) := dgX8_text_1.2.1
theorem dX8_text_35 : decode cX8_text 35 = .ok (.getfield 224, 3) := dgX8_text_1.2.2.1
theorem dX8_text_38 : decode cX8_text 38 = .ok (.bipush 14, 2) := dgX8_text_1.2.2.2.1
theorem dX8_text_40 : decode cX8_text 40 = .ok (.if_icmp .lt 6, 3) := dgX8_text_1.2.2.2.2.1
theorem dX8_text_43 : decode cX8_text 43 = .ok (.ldc 69, 2) := dgX8_text_1.2.2.2.2.2.1
theorem dX8_text_45 : decode cX8_text 45 = .ok (.ireturn, 1) := dgX8_text_1.2.2.2.2.2.2.1
theorem dX8_text_46 : decode cX8_text 46 = .ok (.aload_n 0, 1) := dgX8_text_1.2.2.2.2.2.2.2.1
theorem dX8_text_47 : decode cX8_text 47 = .ok (.getfield 10, 3) := dgX8_text_1.2.2.2.2.2.2.2.2.1
theorem dX8_text_50 : decode cX8_text 50 = .ok (.aload_n 1, 1) := dgX8_text_1.2.2.2.2.2.2.2.2.2.1
theorem dX8_text_51 : decode cX8_text 51 = .ok (.invokevirtual 227, 3) := dgX8_text_1.2.2.2.2.2.2.2.2.2.2.1
theorem dX8_text_54 : decode cX8_text 54 = .ok (.ireturn, 1) := dgX8_text_1.2.2.2.2.2.2.2.2.2.2.2
abbrev pX8_text : List Nat := [0, 31, 46]
def bX8_text_0 (cal : ab_F) : ab_K := o_aload 0 <| o_getf 7 4 <| o_callV cal 5 0 0 <| o_astore 1 <| o_aload 0 <| o_getf 7 3 <| o_push (.int 0) <| o_putI 4 1 <| o_aload 1 <| o_ifnonnull 1 <| o_push (.int (-100)) <| o_aload 0 <| o_getf 7 4 <| o_getf 0 0 <| o_bin (fun x y => x - y) <| o_ret (some .int)
def bX8_text_1 (cal : ab_F) : ab_K := o_aload 0 <| o_getf 7 0 <| o_getf 3 11 <| o_push (.int 14) <| o_cmp (fun x y => decide (x < y)) 2 <| o_push (.int (-1000000003)) <| o_ret (some .int)
def bX8_text_2 (cal : ab_F) : ab_K := o_aload 0 <| o_getf 7 0 <| o_aload 1 <| o_callV cal 36 1 3 <| o_ret (some .int)
def bX8_text (cal : ab_F) : List ab_K := [bX8_text_0 cal, bX8_text_1 cal, bX8_text_2 cal]
set_option maxRecDepth 100000 in
theorem sX8_text_0 {G : ab_G} {xs : List Int32} {d : Nat} {cal : ab_F} (hcs : ab_CS G (ab_Z G xs) ab_Mf cal d) : ab_Sd G (ab_Z G xs) (d + 1) (ab_mY mX8_text pX8_text) 0 (bX8_text_0 cal) :=
  sn_aload_n dX8_text_0 rfl <| sn_getf dX8_text_1 rfl hinX8 (by decide) w_289 <| sq_callV mt_5 hcs dX8_text_4 rfl w_669 w_670 w_671 w_60 w_672 hy_5 hm_5 <| sn_astore_n dX8_text_7 rfl (by decide) <| sn_aload_n dX8_text_8 rfl <| sn_getf dX8_text_9 rfl hinX8 (by decide) w_288 <| sn_iconst dX8_text_12 rfl <| sn_putI tyX5 tyX5_ok nmX5 dX8_text_13 rfl hinX5 (by decide) w_183 (Or.inl rfl) (tyX5_ok 1 (by decide)) <| sn_aload_n dX8_text_16 rfl <| sn_ifnonnull (tg := 31) dX8_text_17 rfl rfl <| sn_bipush dX8_text_20 rfl <| sn_aload_n dX8_text_22 rfl <| sn_getf dX8_text_23 rfl hinX8 (by decide) w_289 <| sn_getf dX8_text_26 rfl hinX1 (by decide) w_197 <| sn_isub dX8_text_29 <| sn_ret dX8_text_30 ab_ri_int
set_option maxRecDepth 100000 in
theorem sX8_text_1 {G : ab_G} {xs : List Int32} {d : Nat} {cal : ab_F} (hcs : ab_CS G (ab_Z G xs) ab_Mf cal d) : ab_Sd G (ab_Z G xs) (d + 1) (ab_mY mX8_text pX8_text) 31 (bX8_text_1 cal) :=
  sn_aload_n dX8_text_31 rfl <| sn_getf dX8_text_32 rfl hinX8 (by decide) w_285 <| sn_getf dX8_text_35 rfl hinX4 (by decide) w_116 <| sn_bipush dX8_text_38 rfl <| sn_cmp_lt (tg := 46) dX8_text_40 rfl rfl <| sn_ldc dX8_text_43 w_324 <| sn_ret dX8_text_45 ab_ri_int
set_option maxRecDepth 100000 in
theorem sX8_text_2 {G : ab_G} {xs : List Int32} {d : Nat} {cal : ab_F} (hcs : ab_CS G (ab_Z G xs) ab_Mf cal d) : ab_Sd G (ab_Z G xs) (d + 1) (ab_mY mX8_text pX8_text) 46 (bX8_text_2 cal) :=
  sn_aload_n dX8_text_46 rfl <| sn_getf dX8_text_47 rfl hinX8 (by decide) w_285 <| sn_aload_n dX8_text_50 rfl <| sq_callV mt_36 hcs dX8_text_51 rfl w_874 w_875 w_876 w_56 w_877 hy_36 hm_36 <| sn_ret dX8_text_54 ab_ri_int
theorem sX8_text {G : ab_G} {xs : List Int32} {d : Nat} {cal : ab_F} (hcs : ab_CS G (ab_Z G xs) ab_Mf cal d) : ab_BS G (ab_Z G xs) (d + 1) (ab_mY mX8_text pX8_text) pX8_text (bX8_text cal) := ⟨sX8_text_0 hcs, sX8_text_1 hcs, sX8_text_2 hcs, trivial⟩
theorem dgX8_textTold_0 : decode cX8_textTold 0 = .ok (.aload_n 0, 1) ∧ decode cX8_textTold 1 = .ok (.getfield 10, 3) ∧ decode cX8_textTold 4 = .ok (.iload_n 1, 1) ∧ decode cX8_textTold 5 = .ok (.invokevirtual 231, 3) ∧ decode cX8_textTold 8 = .ok (.astore_n 3, 1) ∧ decode cX8_textTold 9 = .ok (.aload_n 3, 1) ∧ decode cX8_textTold 10 = .ok (.ifnull 12, 3) ∧ decode cX8_textTold 13 = .ok (.iload_n 2, 1) ∧ decode cX8_textTold 14 = .ok (.iconst 0, 1) ∧ decode cX8_textTold 15 = .ok (.iconst 1, 1) ∧ decode cX8_textTold 16 = .ok (.invokestatic 60, 3) ∧ decode cX8_textTold 19 = .ok (.ifCond .ne 6, 3) ∧ decode cX8_textTold 22 = .ok (.ldc 64, 2) ∧ decode cX8_textTold 24 = .ok (.ireturn, 1) ∧ decode cX8_textTold 25 = .ok (.iload_n 2, 1) ∧ decode cX8_textTold 26 = .ok (.ifCond .ne 10, 3) := by decide +kernel
theorem dX8_textTold_0 : decode cX8_textTold 0 = .ok (.aload_n 0, 1) := dgX8_textTold_0.1
theorem dX8_textTold_1 : decode cX8_textTold 1 = .ok (.getfield 10, 3) := dgX8_textTold_0.2.1
theorem dX8_textTold_4 : decode cX8_textTold 4 = .ok (.iload_n 1, 1) := dgX8_textTold_0.2.2.1
theorem dX8_textTold_5 : decode cX8_textTold 5 = .ok (.invokevirtual 231, 3) := dgX8_textTold_0.2.2.2.1
theorem dX8_textTold_8 : decode cX8_textTold 8 = .ok (.astore_n 3, 1) := dgX8_textTold_0.2.2.2.2.1
theorem dX8_textTold_9 : decode cX8_textTold 9 = .ok (.aload_n 3, 1) := dgX8_textTold_0.2.2.2.2.2.1
theorem dX8_textTold_10 : decode cX8_textTold 10 = .ok (.ifnull 12, 3) := dgX8_textTold_0.2.2.2.2.2.2.1
theorem dX8_textTold_13 : decode cX8_textTold 13 = .ok (.iload_n 2, 1) := dgX8_textTold_0.2.2.2.2.2.2.2.1
theorem dX8_textTold_14 : decode cX8_textTold 14 = .ok (.iconst 0, 1) := dgX8_textTold_0.2.2.2.2.2.2.2.2.1
theorem dX8_textTold_15 : decode cX8_textTold 15 = .ok (.iconst 1, 1) := dgX8_textTold_0.2.2.2.2.2.2.2.2.2.1
theorem dX8_textTold_16 : decode cX8_textTold 16 = .ok (.invokestatic 60, 3) := dgX8_textTold_0.2.2.2.2.2.2.2.2.2.2.1
theorem dX8_textTold_19 : decode cX8_textTold 19 = .ok (.ifCond .ne 6, 3) := dgX8_textTold_0.2.2.2.2.2.2.2.2.2.2.2.1
theorem dX8_textTold_22 : decode cX8_textTold 22 = .ok (.ldc 64, 2) := dgX8_textTold_0.2.2.2.2.2.2.2.2.2.2.2.2.1
theorem dX8_textTold_24 : decode cX8_textTold 24 = .ok (.ireturn, 1) := dgX8_textTold_0.2.2.2.2.2.2.2.2.2.2.2.2.2.1
theorem dX8_textTold_25 : decode cX8_textTold 25 = .ok (.iload_n 2, 1) := dgX8_textTold_0.2.2.2.2.2.2.2.2.2.2.2.2.2.2.1
theorem dX8_textTold_26 : decode cX8_textTold 26 = .ok (.ifCond .ne 10, 3) := dgX8_textTold_0.2.2.2.2.2.2.2.2.2.2.2.2.2.2.2
theorem dgX8_textTold_1 : decode cX8_textTold 29 = .ok (.aload_n 3, 1) ∧ decode cX8_textTold 30 = .ok (.getfield 234, 3) ∧ decode cX8_textTold 33 = .ok (.goto 7, 3) ∧ decode cX8_textTold 36 = .ok (.aload_n 3, 1) ∧ decode cX8_textTold 37 = .ok (.getfield 237, 3) ∧ decode cX8_textTold 40 = .ok (.ireturn, 1) := by decide +kernel
theorem dX8_textTold_29 : decode cX8_textTold 29 = .ok (.aload_n 3, 1) := dgX8_textTold_1.1
theorem dX8_textTold_30 : decode cX8_textTold 30 = .ok (.getfield 234, 3) := dgX8_textTold_1.2.1
theorem dX8_textTold_33 : decode cX8_textTold 33 = .ok (.goto 7, 3) := dgX8_textTold_1.2.2.1
theorem dX8_textTold_36 : decode cX8_textTold 36 = .ok (.aload_n 3, 1) := dgX8_textTold_1.2.2.2.1
theorem dX8_textTold_37 : decode cX8_textTold 37 = .ok (.getfield 237, 3) := dgX8_textTold_1.2.2.2.2.1
theorem dX8_textTold_40 : decode cX8_textTold 40 = .ok (.ireturn, 1) := dgX8_textTold_1.2.2.2.2.2
abbrev pX8_textTold : List Nat := [0, 22, 25, 36, 40]
def bX8_textTold_0 (cal : ab_F) : ab_K := o_aload 0 <| o_getf 7 0 <| o_iload 1 <| o_callV cal 34 1 3 <| o_astore 3 <| o_aload 3 <| o_ifnull 1 <| o_iload 2 <| o_push (.int 0) <| o_push (.int 1) <| o_callS cal 123 3 <| o_if (fun x => decide (¬ x = 0)) 2 <| o_goto 1
def bX8_textTold_1 (cal : ab_F) : ab_K := o_push (.int (-1000000001)) <| o_ret (some .int)
def bX8_textTold_2 (cal : ab_F) : ab_K := o_iload 2 <| o_if (fun x => decide (¬ x = 0)) 3 <| o_aload 3 <| o_getf 5 0 <| o_goto 4
def bX8_textTold_3 (cal : ab_F) : ab_K := o_aload 3 <| o_getf 5 1 <| o_goto 4
def bX8_textTold_4 (cal : ab_F) : ab_K := o_ret (some .int)
def bX8_textTold (cal : ab_F) : List ab_K := [bX8_textTold_0 cal, bX8_textTold_1 cal, bX8_textTold_2 cal, bX8_textTold_3 cal, bX8_textTold_4 cal]
set_option maxRecDepth 100000 in
theorem sX8_textTold_0 {G : ab_G} {xs : List Int32} {d : Nat} {cal : ab_F} (hcs : ab_CS G (ab_Z G xs) ab_Mf cal d) : ab_Sd G (ab_Z G xs) (d + 1) (ab_mY mX8_textTold pX8_textTold) 0 (bX8_textTold_0 cal) :=
  sn_aload_n dX8_textTold_0 rfl <| sn_getf dX8_textTold_1 rfl hinX8 (by decide) w_285 <| sn_iload_n dX8_textTold_4 rfl <| sq_callV mt_34 hcs dX8_textTold_5 rfl w_882 w_338 w_339 w_56 w_340 hy_34 hm_34 <| sn_astore_n dX8_textTold_8 rfl (by decide) <| sn_aload_n dX8_textTold_9 rfl <| sn_ifnull (tg := 22) dX8_textTold_10 rfl rfl <| sn_iload_n dX8_textTold_13 rfl <| sn_iconst dX8_textTold_14 rfl <| sn_iconst dX8_textTold_15 rfl <| sq_callS mt_123 hcs dX8_textTold_16 w_320 w_321 w_55 w_322 hy_123 hm_123 <| sn_if_ne (tg := 25) dX8_textTold_19 rfl rfl <| sn_next rfl
set_option maxRecDepth 100000 in
theorem sX8_textTold_1 {G : ab_G} {xs : List Int32} {d : Nat} {cal : ab_F} (hcs : ab_CS G (ab_Z G xs) ab_Mf cal d) : ab_Sd G (ab_Z G xs) (d + 1) (ab_mY mX8_textTold pX8_textTold) 22 (bX8_textTold_1 cal) :=
  sn_ldc dX8_textTold_22 w_323 <| sn_ret dX8_textTold_24 ab_ri_int
set_option maxRecDepth 100000 in
theorem sX8_textTold_2 {G : ab_G} {xs : List Int32} {d : Nat} {cal : ab_F} (hcs : ab_CS G (ab_Z G xs) ab_Mf cal d) : ab_Sd G (ab_Z G xs) (d + 1) (ab_mY mX8_textTold pX8_textTold) 25 (bX8_textTold_2 cal) :=
  sn_iload_n dX8_textTold_25 rfl <| sn_if_ne (tg := 36) dX8_textTold_26 rfl rfl <| sn_aload_n dX8_textTold_29 rfl <| sn_getf dX8_textTold_30 rfl hinX6 (by decide) w_857 <| sn_goto (tg := 40) dX8_textTold_33 rfl rfl
set_option maxRecDepth 100000 in
theorem sX8_textTold_3 {G : ab_G} {xs : List Int32} {d : Nat} {cal : ab_F} (hcs : ab_CS G (ab_Z G xs) ab_Mf cal d) : ab_Sd G (ab_Z G xs) (d + 1) (ab_mY mX8_textTold pX8_textTold) 36 (bX8_textTold_3 cal) :=
  sn_aload_n dX8_textTold_36 rfl <| sn_getf dX8_textTold_37 rfl hinX6 (by decide) w_859 <| sn_next rfl
set_option maxRecDepth 100000 in
theorem sX8_textTold_4 {G : ab_G} {xs : List Int32} {d : Nat} {cal : ab_F} (hcs : ab_CS G (ab_Z G xs) ab_Mf cal d) : ab_Sd G (ab_Z G xs) (d + 1) (ab_mY mX8_textTold pX8_textTold) 40 (bX8_textTold_4 cal) :=
  sn_ret dX8_textTold_40 ab_ri_int
theorem sX8_textTold {G : ab_G} {xs : List Int32} {d : Nat} {cal : ab_F} (hcs : ab_CS G (ab_Z G xs) ab_Mf cal d) : ab_BS G (ab_Z G xs) (d + 1) (ab_mY mX8_textTold pX8_textTold) pX8_textTold (bX8_textTold cal) := ⟨sX8_textTold_0 hcs, sX8_textTold_1 hcs, sX8_textTold_2 hcs, sX8_textTold_3 hcs, sX8_textTold_4 hcs, trivial⟩
theorem dgX8_why_0 : decode cX8_why 0 = .ok (.iload_n 1, 1) ∧ decode cX8_why 1 = .ok (.iconst 0, 1) ∧ decode cX8_why 2 = .ok (.iconst 2, 1) ∧ decode cX8_why 3 = .ok (.invokestatic 60, 3) ∧ decode cX8_why 6 = .ok (.ifCond .ne 6, 3) ∧ decode cX8_why 9 = .ok (.ldc 64, 2) ∧ decode cX8_why 11 = .ok (.ireturn, 1) ∧ decode cX8_why 12 = .ok (.aload_n 0, 1) ∧ decode cX8_why 13 = .ok (.getfield 10, 3) ∧ decode cX8_why 16 = .ok (.getfield 240, 3) ∧ decode cX8_why 19 = .ok (.iload_n 1, 1) ∧ decode cX8_why 20 = .ok (.iaload, 1) ∧ decode cX8_why 21 = .ok (.iconst (-1), 1) ∧ decode cX8_why 22 = .ok (.if_icmp .ne 8, 3) ∧ decode cX8_why 25 = .ok (.ldc 169, 2) ∧ decode cX8_why 27 = .ok (.goto 12, 3) := by decide +kernel
theorem dX8_why_0 : decode cX8_why 0 = .ok (.iload_n 1, 1) := dgX8_why_0.1
theorem dX8_why_1 : decode cX8_why 1 = .ok (.iconst 0, 1) := dgX8_why_0.2.1
theorem dX8_why_2 : decode cX8_why 2 = .ok (.iconst 2, 1) := dgX8_why_0.2.2.1
theorem dX8_why_3 : decode cX8_why 3 = .ok (.invokestatic 60, 3) := dgX8_why_0.2.2.2.1
theorem dX8_why_6 : decode cX8_why 6 = .ok (.ifCond .ne 6, 3) := dgX8_why_0.2.2.2.2.1
theorem dX8_why_9 : decode cX8_why 9 = .ok (.ldc 64, 2) := dgX8_why_0.2.2.2.2.2.1
theorem dX8_why_11 : decode cX8_why 11 = .ok (.ireturn, 1) := dgX8_why_0.2.2.2.2.2.2.1
theorem dX8_why_12 : decode cX8_why 12 = .ok (.aload_n 0, 1) := dgX8_why_0.2.2.2.2.2.2.2.1
theorem dX8_why_13 : decode cX8_why 13 = .ok (.getfield 10, 3) := dgX8_why_0.2.2.2.2.2.2.2.2.1
theorem dX8_why_16 : decode cX8_why 16 = .ok (.getfield 240, 3) := dgX8_why_0.2.2.2.2.2.2.2.2.2.1
theorem dX8_why_19 : decode cX8_why 19 = .ok (.iload_n 1, 1) := dgX8_why_0.2.2.2.2.2.2.2.2.2.2.1
theorem dX8_why_20 : decode cX8_why 20 = .ok (.iaload, 1) := dgX8_why_0.2.2.2.2.2.2.2.2.2.2.2.1
theorem dX8_why_21 : decode cX8_why 21 = .ok (.iconst (-1), 1) := dgX8_why_0.2.2.2.2.2.2.2.2.2.2.2.2.1
theorem dX8_why_22 : decode cX8_why 22 = .ok (.if_icmp .ne 8, 3) := dgX8_why_0.2.2.2.2.2.2.2.2.2.2.2.2.2.1
theorem dX8_why_25 : decode cX8_why 25 = .ok (.ldc 169, 2) := dgX8_why_0.2.2.2.2.2.2.2.2.2.2.2.2.2.2.1
theorem dX8_why_27 : decode cX8_why 27 = .ok (.goto 12, 3) := dgX8_why_0.2.2.2.2.2.2.2.2.2.2.2.2.2.2.2
theorem dgX8_why_1 : decode cX8_why 30 = .ok (.aload_n 0, 1) ∧ decode cX8_why 31 = .ok (.getfield 10, 3) ∧ decode cX8_why 34 = .ok (.getfield 240, 3) ∧ decode cX8_why 37 = .ok (.iload_n 1, 1) ∧ decode cX8_why 38 = .ok (.iaload, 1) ∧ decode cX8_why 39 = .ok (.ireturn, 1) := by decide +kernel
theorem dX8_why_30 : decode cX8_why 30 = .ok (.aload_n 0, 1) := dgX8_why_1.1
theorem dX8_why_31 : decode cX8_why 31 = .ok (.getfield 10, 3) := dgX8_why_1.2.1
theorem dX8_why_34 : decode cX8_why 34 = .ok (.getfield 240, 3) := dgX8_why_1.2.2.1
theorem dX8_why_37 : decode cX8_why 37 = .ok (.iload_n 1, 1) := dgX8_why_1.2.2.2.1
theorem dX8_why_38 : decode cX8_why 38 = .ok (.iaload, 1) := dgX8_why_1.2.2.2.2.1
theorem dX8_why_39 : decode cX8_why 39 = .ok (.ireturn, 1) := dgX8_why_1.2.2.2.2.2
abbrev pX8_why : List Nat := [0, 12, 30, 39]
def bX8_why_0 (cal : ab_F) : ab_K := o_iload 1 <| o_push (.int 0) <| o_push (.int 2) <| o_callS cal 123 3 <| o_if (fun x => decide (¬ x = 0)) 1 <| o_push (.int (-1000000001)) <| o_ret (some .int)
def bX8_why_1 (cal : ab_F) : ab_K := o_aload 0 <| o_getf 7 0 <| o_getf 3 9 <| o_iload 1 <| o_iald 0 <| o_push (.int (-1)) <| o_cmp (fun x y => decide (¬ x = y)) 2 <| o_push (.int (-1000000005)) <| o_goto 3
def bX8_why_2 (cal : ab_F) : ab_K := o_aload 0 <| o_getf 7 0 <| o_getf 3 9 <| o_iload 1 <| o_iald 0 <| o_goto 3
def bX8_why_3 (cal : ab_F) : ab_K := o_ret (some .int)
def bX8_why (cal : ab_F) : List ab_K := [bX8_why_0 cal, bX8_why_1 cal, bX8_why_2 cal, bX8_why_3 cal]
set_option maxRecDepth 100000 in
theorem sX8_why_0 {G : ab_G} {xs : List Int32} {d : Nat} {cal : ab_F} (hcs : ab_CS G (ab_Z G xs) ab_Mf cal d) : ab_Sd G (ab_Z G xs) (d + 1) (ab_mY mX8_why pX8_why) 0 (bX8_why_0 cal) :=
  sn_iload_n dX8_why_0 rfl <| sn_iconst dX8_why_1 rfl <| sn_iconst dX8_why_2 rfl <| sq_callS mt_123 hcs dX8_why_3 w_320 w_321 w_55 w_322 hy_123 hm_123 <| sn_if_ne (tg := 12) dX8_why_6 rfl rfl <| sn_ldc dX8_why_9 w_323 <| sn_ret dX8_why_11 ab_ri_int
set_option maxRecDepth 100000 in
theorem sX8_why_1 {G : ab_G} {xs : List Int32} {d : Nat} {cal : ab_F} (hcs : ab_CS G (ab_Z G xs) ab_Mf cal d) : ab_Sd G (ab_Z G xs) (d + 1) (ab_mY mX8_why pX8_why) 12 (bX8_why_1 cal) :=
  sn_aload_n dX8_why_12 rfl <| sn_getf dX8_why_13 rfl hinX8 (by decide) w_285 <| sn_getf dX8_why_16 rfl hinX4 (by decide) w_111 <| sn_iload_n dX8_why_19 rfl <| sn_iald dX8_why_20 rfl <| sn_iconst dX8_why_21 rfl <| sn_cmp_ne (tg := 30) dX8_why_22 rfl rfl <| sn_ldc dX8_why_25 w_534 <| sn_goto (tg := 39) dX8_why_27 rfl rfl
set_option maxRecDepth 100000 in
theorem sX8_why_2 {G : ab_G} {xs : List Int32} {d : Nat} {cal : ab_F} (hcs : ab_CS G (ab_Z G xs) ab_Mf cal d) : ab_Sd G (ab_Z G xs) (d + 1) (ab_mY mX8_why pX8_why) 30 (bX8_why_2 cal) :=
  sn_aload_n dX8_why_30 rfl <| sn_getf dX8_why_31 rfl hinX8 (by decide) w_285 <| sn_getf dX8_why_34 rfl hinX4 (by decide) w_111 <| sn_iload_n dX8_why_37 rfl <| sn_iald dX8_why_38 rfl <| sn_next rfl
set_option maxRecDepth 100000 in
theorem sX8_why_3 {G : ab_G} {xs : List Int32} {d : Nat} {cal : ab_F} (hcs : ab_CS G (ab_Z G xs) ab_Mf cal d) : ab_Sd G (ab_Z G xs) (d + 1) (ab_mY mX8_why pX8_why) 39 (bX8_why_3 cal) :=
  sn_ret dX8_why_39 ab_ri_int
theorem sX8_why {G : ab_G} {xs : List Int32} {d : Nat} {cal : ab_F} (hcs : ab_CS G (ab_Z G xs) ab_Mf cal d) : ab_BS G (ab_Z G xs) (d + 1) (ab_mY mX8_why pX8_why) pX8_why (bX8_why cal) := ⟨sX8_why_0 hcs, sX8_why_1 hcs, sX8_why_2 hcs, sX8_why_3 hcs, trivial⟩
theorem dgX8_sheet_0 : decode cX8_sheet 0 = .ok (.iload_n 1, 1) ∧ decode cX8_sheet 1 = .ok (.invokestatic 190, 3) ∧ decode cX8_sheet 4 = .ok (.ifCond .eq 12, 3) ∧ decode cX8_sheet 7 = .ok (.iload_n 2, 1) ∧ decode cX8_sheet 8 = .ok (.iconst (-1), 1) ∧ decode cX8_sheet 9 = .ok (.iconst 1, 1) ∧ decode cX8_sheet 10 = .ok (.invokestatic 60, 3) ∧ decode cX8_sheet 13 = .ok (.ifCond .ne 6, 3) ∧ decode cX8_sheet 16 = .ok (.ldc 64, 2) ∧ decode cX8_sheet 18 = .ok (.ireturn, 1) ∧ decode cX8_sheet 19 = .ok (.iload_n 2, 1) ∧ decode cX8_sheet 20 = .ok (.iconst (-1), 1) ∧ decode cX8_sheet 21 = .ok (.if_icmp .ne 16, 3) ∧ decode cX8_sheet 24 = .ok (.aload_n 0, 1) ∧ decode cX8_sheet 25 = .ok (.getfield 44, 3) ∧ decode cX8_sheet 28 = .ok (.iload_n 1, 1) := by decide +kernel
theorem dX8_sheet_0 : decode cX8_sheet 0 = .ok (.iload_n 1, 1) := dgX8_sheet_0.1
theorem dX8_sheet_1 : decode cX8_sheet 1 = .ok (.invokestatic 190, 3) := dgX8_sheet_0.2.1
theorem dX8_sheet_4 : decode cX8_sheet 4 = .ok (.ifCond .eq 12, 3) := dgX8_sheet_0.2.2.1
theorem dX8_sheet_7 : decode cX8_sheet 7 = .ok (.iload_n 2, 1) := dgX8_sheet_0.2.2.2.1
theorem dX8_sheet_8 : decode cX8_sheet 8 = .ok (.iconst (-1), 1) := dgX8_sheet_0.2.2.2.2.1
theorem dX8_sheet_9 : decode cX8_sheet 9 = .ok (.iconst 1, 1) := dgX8_sheet_0.2.2.2.2.2.1
theorem dX8_sheet_10 : decode cX8_sheet 10 = .ok (.invokestatic 60, 3) := dgX8_sheet_0.2.2.2.2.2.2.1
theorem dX8_sheet_13 : decode cX8_sheet 13 = .ok (.ifCond .ne 6, 3) := dgX8_sheet_0.2.2.2.2.2.2.2.1
theorem dX8_sheet_16 : decode cX8_sheet 16 = .ok (.ldc 64, 2) := dgX8_sheet_0.2.2.2.2.2.2.2.2.1
theorem dX8_sheet_18 : decode cX8_sheet 18 = .ok (.ireturn, 1) := dgX8_sheet_0.2.2.2.2.2.2.2.2.2.1
theorem dX8_sheet_19 : decode cX8_sheet 19 = .ok (.iload_n 2, 1) := dgX8_sheet_0.2.2.2.2.2.2.2.2.2.2.1
theorem dX8_sheet_20 : decode cX8_sheet 20 = .ok (.iconst (-1), 1) := dgX8_sheet_0.2.2.2.2.2.2.2.2.2.2.2.1
theorem dX8_sheet_21 : decode cX8_sheet 21 = .ok (.if_icmp .ne 16, 3) := dgX8_sheet_0.2.2.2.2.2.2.2.2.2.2.2.2.1
theorem dX8_sheet_24 : decode cX8_sheet 24 = .ok (.aload_n 0, 1) := dgX8_sheet_0.2.2.2.2.2.2.2.2.2.2.2.2.2.1
theorem dX8_sheet_25 : decode cX8_sheet 25 = .ok (.getfield 44, 3) := dgX8_sheet_0.2.2.2.2.2.2.2.2.2.2.2.2.2.2.1
theorem dX8_sheet_28 : decode cX8_sheet 28 = .ok (.iload_n 1, 1) := dgX8_sheet_0.2.2.2.2.2.2.2.2.2.2.2.2.2.2.2
theorem dgX8_sheet_1 : decode cX8_sheet 29 = .ok (.aaload, 1) ∧ decode cX8_sheet 30 = .ok (.iconst (-1), 1) ∧ decode cX8_sheet 31 = .ok (.iconst 0, 1) ∧ decode cX8_sheet 32 = .ok (.invokevirtual 243, 3) ∧ decode cX8_sheet 35 = .ok (.iconst 0, 1) ∧ decode cX8_sheet 36 = .ok (.ireturn, 1) ∧ decode cX8_sheet 37 = .ok (.iload_n 3, 1) ∧ decode cX8_sheet 38 = .ok (.bipush 24, 2) ∧ decode cX8_sheet 40 = .ok (.if_icmp .le 6, 3) ∧ decode cX8_sheet 43 = .ok (.ldc 64, 2) ∧ decode cX8_sheet 45 = .ok (.ireturn, 1) ∧ decode cX8_sheet 46 = .ok (.iload_n 3, 1) ∧ decode cX8_sheet 47 = .ok (.ifCond .ge 6, 3) ∧ decode cX8_sheet 50 = .ok (.ldc 246, 2) ∧ decode cX8_sheet 52 = .ok (.ireturn, 1) ∧ decode cX8_sheet 53 = .ok (.aload_n 0, 1) := by decide +kernel
theorem dX8_sheet_29 : decode cX8_sheet 29 = .ok (.aaload, 1) := dgX8_sheet_1.1
theorem dX8_sheet_30 : decode cX8_sheet 30 = .ok (.iconst (-1), 1) := dgX8_sheet_1.2.1
theorem dX8_sheet_31 : decode cX8_sheet 31 = .ok (.iconst 0, 1) := dgX8_sheet_1.2.2.1
theorem dX8_sheet_32 : decode cX8_sheet 32 = .ok (.invokevirtual 243, 3) := dgX8_sheet_1.2.2.2.1
theorem dX8_sheet_35 : decode cX8_sheet 35 = .ok (.iconst 0, 1) := dgX8_sheet_1.2.2.2.2.1
theorem dX8_sheet_36 : decode cX8_sheet 36 = .ok (.ireturn, 1) := dgX8_sheet_1.2.2.2.2.2.1
theorem dX8_sheet_37 : decode cX8_sheet 37 = .ok (.iload_n 3, 1) := dgX8_sheet_1.2.2.2.2.2.2.1
theorem dX8_sheet_38 : decode cX8_sheet 38 = .ok (.bipush 24, 2) := dgX8_sheet_1.2.2.2.2.2.2.2.1
theorem dX8_sheet_40 : decode cX8_sheet 40 = .ok (.if_icmp .le 6, 3) := dgX8_sheet_1.2.2.2.2.2.2.2.2.1
theorem dX8_sheet_43 : decode cX8_sheet 43 = .ok (.ldc 64, 2) := dgX8_sheet_1.2.2.2.2.2.2.2.2.2.1
theorem dX8_sheet_45 : decode cX8_sheet 45 = .ok (.ireturn, 1) := dgX8_sheet_1.2.2.2.2.2.2.2.2.2.2.1
theorem dX8_sheet_46 : decode cX8_sheet 46 = .ok (.iload_n 3, 1) := dgX8_sheet_1.2.2.2.2.2.2.2.2.2.2.2.1
theorem dX8_sheet_47 : decode cX8_sheet 47 = .ok (.ifCond .ge 6, 3) := dgX8_sheet_1.2.2.2.2.2.2.2.2.2.2.2.2.1
theorem dX8_sheet_50 : decode cX8_sheet 50 = .ok (.ldc 246, 2) := dgX8_sheet_1.2.2.2.2.2.2.2.2.2.2.2.2.2.1
theorem dX8_sheet_52 : decode cX8_sheet 52 = .ok (.ireturn, 1) := dgX8_sheet_1.2.2.2.2.2.2.2.2.2.2.2.2.2.2.1
theorem dX8_sheet_53 : decode cX8_sheet 53 = .ok (.aload_n 0, 1) := dgX8_sheet_1.2.2.2.2.2.2.2.2.2.2.2.2.2.2.2
theorem dgX8_sheet_2 : decode cX8_sheet 54 = .ok (.getfield 44, 3) ∧ decode cX8_sheet 57 = .ok (.iload_n 1, 1) ∧ decode cX8_sheet 58 = .ok (.aaload, 1) ∧ decode cX8_sheet 59 = .ok (.iload_n 2, 1) ∧ decode cX8_sheet 60 = .ok (.iload_n 3, 1) ∧ decode cX8_sheet 61 = .ok (.invokevirtual 243, 3) ∧ decode cX8_sheet 64 = .ok (.iload_n 3, 1) ∧ decode cX8_sheet 65 = .ok (.ireturn, 1) := by decide +kernel
theorem dX8_sheet_54 : decode cX8_sheet 54 = .ok (.getfield 44, 3) := dgX8_sheet_2.1
theorem dX8_sheet_57 : decode cX8_sheet 57 = .ok (.iload_n 1, 1) := dgX8_sheet_2.2.1
theorem dX8_sheet_58 : decode cX8_sheet 58 = .ok (.aaload, 1) := dgX8_sheet_2.2.2.1
theorem dX8_sheet_59 : decode cX8_sheet 59 = .ok (.iload_n 2, 1) := dgX8_sheet_2.2.2.2.1
theorem dX8_sheet_60 : decode cX8_sheet 60 = .ok (.iload_n 3, 1) := dgX8_sheet_2.2.2.2.2.1
theorem dX8_sheet_61 : decode cX8_sheet 61 = .ok (.invokevirtual 243, 3) := dgX8_sheet_2.2.2.2.2.2.1
theorem dX8_sheet_64 : decode cX8_sheet 64 = .ok (.iload_n 3, 1) := dgX8_sheet_2.2.2.2.2.2.2.1
theorem dX8_sheet_65 : decode cX8_sheet 65 = .ok (.ireturn, 1) := dgX8_sheet_2.2.2.2.2.2.2.2
abbrev pX8_sheet : List Nat := [0, 16, 19, 37, 46, 53]
def bX8_sheet_0 (cal : ab_F) : ab_K := o_iload 1 <| o_callS cal 121 1 <| o_if (fun x => decide (x = 0)) 1 <| o_iload 2 <| o_push (.int (-1)) <| o_push (.int 1) <| o_callS cal 123 3 <| o_if (fun x => decide (¬ x = 0)) 2 <| o_goto 1
def bX8_sheet_1 (cal : ab_F) : ab_K := o_push (.int (-1000000001)) <| o_ret (some .int)
def bX8_sheet_2 (cal : ab_F) : ab_K := o_iload 2 <| o_push (.int (-1)) <| o_cmp (fun x y => decide (¬ x = y)) 3 <| o_aload 0 <| o_getf 7 5 <| o_iload 1 <| o_aald 3 <| o_push (.int (-1)) <| o_push (.int 0) <| o_callV cal 22 2 1 <| o_push (.int 0) <| o_ret (some .int)
def bX8_sheet_3 (cal : ab_F) : ab_K := o_iload 3 <| o_push (.int 24) <| o_cmp (fun x y => decide (x ≤ y)) 4 <| o_push (.int (-1000000001)) <| o_ret (some .int)
def bX8_sheet_4 (cal : ab_F) : ab_K := o_iload 3 <| o_if (fun x => decide (0 ≤ x)) 5 <| o_push (.int (-1000000014)) <| o_ret (some .int)
def bX8_sheet_5 (cal : ab_F) : ab_K := o_aload 0 <| o_getf 7 5 <| o_iload 1 <| o_aald 3 <| o_iload 2 <| o_iload 3 <| o_callV cal 22 2 1 <| o_iload 3 <| o_ret (some .int)
def bX8_sheet (cal : ab_F) : List ab_K := [bX8_sheet_0 cal, bX8_sheet_1 cal, bX8_sheet_2 cal, bX8_sheet_3 cal, bX8_sheet_4 cal, bX8_sheet_5 cal]
set_option maxRecDepth 100000 in
theorem sX8_sheet_0 {G : ab_G} {xs : List Int32} {d : Nat} {cal : ab_F} (hcs : ab_CS G (ab_Z G xs) ab_Mf cal d) : ab_Sd G (ab_Z G xs) (d + 1) (ab_mY mX8_sheet pX8_sheet) 0 (bX8_sheet_0 cal) :=
  sn_iload_n dX8_sheet_0 rfl <| sq_callS mt_121 hcs dX8_sheet_1 w_621 w_622 w_55 w_623 hy_121 hm_121 <| sn_if_eq (tg := 16) dX8_sheet_4 rfl rfl <| sn_iload_n dX8_sheet_7 rfl <| sn_iconst dX8_sheet_8 rfl <| sn_iconst dX8_sheet_9 rfl <| sq_callS mt_123 hcs dX8_sheet_10 w_320 w_321 w_55 w_322 hy_123 hm_123 <| sn_if_ne (tg := 19) dX8_sheet_13 rfl rfl <| sn_next rfl
set_option maxRecDepth 100000 in
theorem sX8_sheet_1 {G : ab_G} {xs : List Int32} {d : Nat} {cal : ab_F} (hcs : ab_CS G (ab_Z G xs) ab_Mf cal d) : ab_Sd G (ab_Z G xs) (d + 1) (ab_mY mX8_sheet pX8_sheet) 16 (bX8_sheet_1 cal) :=
  sn_ldc dX8_sheet_16 w_323 <| sn_ret dX8_sheet_18 ab_ri_int
set_option maxRecDepth 100000 in
theorem sX8_sheet_2 {G : ab_G} {xs : List Int32} {d : Nat} {cal : ab_F} (hcs : ab_CS G (ab_Z G xs) ab_Mf cal d) : ab_Sd G (ab_Z G xs) (d + 1) (ab_mY mX8_sheet pX8_sheet) 19 (bX8_sheet_2 cal) :=
  sn_iload_n dX8_sheet_19 rfl <| sn_iconst dX8_sheet_20 rfl <| sn_cmp_ne (tg := 37) dX8_sheet_21 rfl rfl <| sn_aload_n dX8_sheet_24 rfl <| sn_getf dX8_sheet_25 rfl hinX8 (by decide) w_290 <| sn_iload_n dX8_sheet_28 rfl <| sn_aald dX8_sheet_29 rfl <| sn_iconst dX8_sheet_30 rfl <| sn_iconst dX8_sheet_31 rfl <| sq_callV mt_22 hcs dX8_sheet_32 rfl w_891 w_892 w_893 w_61 w_894 hy_22 hm_22 <| sn_iconst dX8_sheet_35 rfl <| sn_ret dX8_sheet_36 ab_ri_int
set_option maxRecDepth 100000 in
theorem sX8_sheet_3 {G : ab_G} {xs : List Int32} {d : Nat} {cal : ab_F} (hcs : ab_CS G (ab_Z G xs) ab_Mf cal d) : ab_Sd G (ab_Z G xs) (d + 1) (ab_mY mX8_sheet pX8_sheet) 37 (bX8_sheet_3 cal) :=
  sn_iload_n dX8_sheet_37 rfl <| sn_bipush dX8_sheet_38 rfl <| sn_cmp_le (tg := 46) dX8_sheet_40 rfl rfl <| sn_ldc dX8_sheet_43 w_323 <| sn_ret dX8_sheet_45 ab_ri_int
set_option maxRecDepth 100000 in
theorem sX8_sheet_4 {G : ab_G} {xs : List Int32} {d : Nat} {cal : ab_F} (hcs : ab_CS G (ab_Z G xs) ab_Mf cal d) : ab_Sd G (ab_Z G xs) (d + 1) (ab_mY mX8_sheet pX8_sheet) 46 (bX8_sheet_4 cal) :=
  sn_iload_n dX8_sheet_46 rfl <| sn_if_ge (tg := 53) dX8_sheet_47 rfl rfl <| sn_ldc dX8_sheet_50 w_896 <| sn_ret dX8_sheet_52 ab_ri_int
set_option maxRecDepth 100000 in
theorem sX8_sheet_5 {G : ab_G} {xs : List Int32} {d : Nat} {cal : ab_F} (hcs : ab_CS G (ab_Z G xs) ab_Mf cal d) : ab_Sd G (ab_Z G xs) (d + 1) (ab_mY mX8_sheet pX8_sheet) 53 (bX8_sheet_5 cal) :=
  sn_aload_n dX8_sheet_53 rfl <| sn_getf dX8_sheet_54 rfl hinX8 (by decide) w_290 <| sn_iload_n dX8_sheet_57 rfl <| sn_aald dX8_sheet_58 rfl <| sn_iload_n dX8_sheet_59 rfl <| sn_iload_n dX8_sheet_60 rfl <| sq_callV mt_22 hcs dX8_sheet_61 rfl w_891 w_892 w_893 w_61 w_894 hy_22 hm_22 <| sn_iload_n dX8_sheet_64 rfl <| sn_ret dX8_sheet_65 ab_ri_int
theorem sX8_sheet {G : ab_G} {xs : List Int32} {d : Nat} {cal : ab_F} (hcs : ab_CS G (ab_Z G xs) ab_Mf cal d) : ab_BS G (ab_Z G xs) (d + 1) (ab_mY mX8_sheet pX8_sheet) pX8_sheet (bX8_sheet cal) := ⟨sX8_sheet_0 hcs, sX8_sheet_1 hcs, sX8_sheet_2 hcs, sX8_sheet_3 hcs, sX8_sheet_4 hcs, sX8_sheet_5 hcs, trivial⟩
theorem dgX8_mark_0 : decode cX8_mark 0 = .ok (.iload_n 1, 1) ∧ decode cX8_mark 1 = .ok (.invokestatic 190, 3) ∧ decode cX8_mark 4 = .ok (.ifCond .ne 6, 3) ∧ decode cX8_mark 7 = .ok (.ldc 64, 2) ∧ decode cX8_mark 9 = .ok (.ireturn, 1) ∧ decode cX8_mark 10 = .ok (.aload_n 0, 1) ∧ decode cX8_mark 11 = .ok (.getfield 44, 3) ∧ decode cX8_mark 14 = .ok (.iload_n 1, 1) ∧ decode cX8_mark 15 = .ok (.aaload, 1) ∧ decode cX8_mark 16 = .ok (.astore 4, 2) ∧ decode cX8_mark 18 = .ok (.aload 4, 2) ∧ decode cX8_mark 20 = .ok (.invokevirtual 193, 3) ∧ decode cX8_mark 23 = .ok (.ifCond .eq 6, 3) ∧ decode cX8_mark 26 = .ok (.ldc 197, 2) ∧ decode cX8_mark 28 = .ok (.ireturn, 1) ∧ decode cX8_mark 29 = .ok (.iload_n 2, 1) := by decide +kernel
theorem dX8_mark_0 : decode cX8_mark 0 = .ok (.iload_n 1, 1) := dgX8_mark_0.1
theorem dX8_mark_1 : decode cX8_mark 1 = .ok (.invokestatic 190, 3) := dgX8_mark_0.2.1
theorem dX8_mark_4 : decode cX8_mark 4 = .ok (.ifCond .ne 6, 3) := dgX8_mark_0.2.2.1
theorem dX8_mark_7 : decode cX8_mark 7 = .ok (.ldc 64, 2) := dgX8_mark_0.2.2.2.1
theorem dX8_mark_9 : decode cX8_mark 9 = .ok (.ireturn, 1) := dgX8_mark_0.2.2.2.2.1
theorem dX8_mark_10 : decode cX8_mark 10 = .ok (.aload_n 0, 1) := dgX8_mark_0.2.2.2.2.2.1
theorem dX8_mark_11 : decode cX8_mark 11 = .ok (.getfield 44, 3) := dgX8_mark_0.2.2.2.2.2.2.1
theorem dX8_mark_14 : decode cX8_mark 14 = .ok (.iload_n 1, 1) := dgX8_mark_0.2.2.2.2.2.2.2.1
theorem dX8_mark_15 : decode cX8_mark 15 = .ok (.aaload, 1) := dgX8_mark_0.2.2.2.2.2.2.2.2.1
theorem dX8_mark_16 : decode cX8_mark 16 = .ok (.astore 4, 2) := dgX8_mark_0.2.2.2.2.2.2.2.2.2.1
theorem dX8_mark_18 : decode cX8_mark 18 = .ok (.aload 4, 2) := dgX8_mark_0.2.2.2.2.2.2.2.2.2.2.1
theorem dX8_mark_20 : decode cX8_mark 20 = .ok (.invokevirtual 193, 3) := dgX8_mark_0.2.2.2.2.2.2.2.2.2.2.2.1
theorem dX8_mark_23 : decode cX8_mark 23 = .ok (.ifCond .eq 6, 3) := dgX8_mark_0.2.2.2.2.2.2.2.2.2.2.2.2.1
theorem dX8_mark_26 : decode cX8_mark 26 = .ok (.ldc 197, 2) := dgX8_mark_0.2.2.2.2.2.2.2.2.2.2.2.2.2.1
theorem dX8_mark_28 : decode cX8_mark 28 = .ok (.ireturn, 1) := dgX8_mark_0.2.2.2.2.2.2.2.2.2.2.2.2.2.2.1
theorem dX8_mark_29 : decode cX8_mark 29 = .ok (.iload_n 2, 1) := dgX8_mark_0.2.2.2.2.2.2.2.2.2.2.2.2.2.2.2
theorem dgX8_mark_1 : decode cX8_mark 30 = .ok (.iconst 0, 1) ∧ decode cX8_mark 31 = .ok (.aload 4, 2) ∧ decode cX8_mark 33 = .ok (.getfield 247, 3) ∧ decode cX8_mark 36 = .ok (.iconst 1, 1) ∧ decode cX8_mark 37 = .ok (.isub, 1) ∧ decode cX8_mark 38 = .ok (.invokestatic 60, 3) ∧ decode cX8_mark 41 = .ok (.ifCond .ne 6, 3) ∧ decode cX8_mark 44 = .ok (.ldc 248, 2) ∧ decode cX8_mark 46 = .ok (.ireturn, 1) ∧ decode cX8_mark 47 = .ok (.aload 4, 2) ∧ decode cX8_mark 49 = .ok (.getfield 249, 3) ∧ decode cX8_mark 52 = .ok (.ifCond .ne 23, 3) ∧ decode cX8_mark 55 = .ok (.iload_n 3, 1) ∧ decode cX8_mark 56 = .ok (.ldc 169, 2) ∧ decode cX8_mark 58 = .ok (.if_icmp .ne 8, 3) ∧ decode cX8_mark 61 = .ok (.ldc 112, 2) := by decide +kernel
theorem dX8_mark_30 : decode cX8_mark 30 = .ok (.iconst 0, 1) := dgX8_mark_1.1
theorem dX8_mark_31 : decode cX8_mark 31 = .ok (.aload 4, 2) := dgX8_mark_1.2.1
theorem dX8_mark_33 : decode cX8_mark 33 = .ok (.getfield 247, 3) := dgX8_mark_1.2.2.1
theorem dX8_mark_36 : decode cX8_mark 36 = .ok (.iconst 1, 1) := dgX8_mark_1.2.2.2.1
theorem dX8_mark_37 : decode cX8_mark 37 = .ok (.isub, 1) := dgX8_mark_1.2.2.2.2.1
theorem dX8_mark_38 : decode cX8_mark 38 = .ok (.invokestatic 60, 3) := dgX8_mark_1.2.2.2.2.2.1
theorem dX8_mark_41 : decode cX8_mark 41 = .ok (.ifCond .ne 6, 3) := dgX8_mark_1.2.2.2.2.2.2.1
theorem dX8_mark_44 : decode cX8_mark 44 = .ok (.ldc 248, 2) := dgX8_mark_1.2.2.2.2.2.2.2.1
theorem dX8_mark_46 : decode cX8_mark 46 = .ok (.ireturn, 1) := dgX8_mark_1.2.2.2.2.2.2.2.2.1
theorem dX8_mark_47 : decode cX8_mark 47 = .ok (.aload 4, 2) := dgX8_mark_1.2.2.2.2.2.2.2.2.2.1
theorem dX8_mark_49 : decode cX8_mark 49 = .ok (.getfield 249, 3) := dgX8_mark_1.2.2.2.2.2.2.2.2.2.2.1
theorem dX8_mark_52 : decode cX8_mark 52 = .ok (.ifCond .ne 23, 3) := dgX8_mark_1.2.2.2.2.2.2.2.2.2.2.2.1
theorem dX8_mark_55 : decode cX8_mark 55 = .ok (.iload_n 3, 1) := dgX8_mark_1.2.2.2.2.2.2.2.2.2.2.2.2.1
theorem dX8_mark_56 : decode cX8_mark 56 = .ok (.ldc 169, 2) := dgX8_mark_1.2.2.2.2.2.2.2.2.2.2.2.2.2.1
theorem dX8_mark_58 : decode cX8_mark 58 = .ok (.if_icmp .ne 8, 3) := dgX8_mark_1.2.2.2.2.2.2.2.2.2.2.2.2.2.2.1
theorem dX8_mark_61 : decode cX8_mark 61 = .ok (.ldc 112, 2) := dgX8_mark_1.2.2.2.2.2.2.2.2.2.2.2.2.2.2.2
theorem dgX8_mark_2 : decode cX8_mark 63 = .ok (.goto 11, 3) ∧ decode cX8_mark 66 = .ok (.aload 4, 2) ∧ decode cX8_mark 68 = .ok (.iload_n 2, 1) ∧ decode cX8_mark 69 = .ok (.iload_n 3, 1) ∧ decode cX8_mark 70 = .ok (.i2s, 1) ∧ decode cX8_mark 71 = .ok (.invokevirtual 252, 3) ∧ decode cX8_mark 74 = .ok (.ireturn, 1) ∧ decode cX8_mark 75 = .ok (.iload_n 3, 1) ∧ decode cX8_mark 76 = .ok (.ldc 169, 2) ∧ decode cX8_mark 78 = .ok (.if_icmp .eq 18, 3) ∧ decode cX8_mark 81 = .ok (.iload_n 3, 1) ∧ decode cX8_mark 82 = .ok (.ldc 255, 2) ∧ decode cX8_mark 84 = .ok (.ldc_w 256, 3) ∧ decode cX8_mark 87 = .ok (.invokestatic 60, 3) ∧ decode cX8_mark 90 = .ok (.ifCond .ne 6, 3) ∧ decode cX8_mark 93 = .ok (.ldc 64, 2) := by decide +kernel
theorem dX8_mark_63 : decode cX8_mark 63 = .ok (.goto 11, 3) := dgX8_mark_2.1
theorem dX8_mark_66 : decode cX8_mark 66 = .ok (.aload 4, 2) := dgX8_mark_2.2.1
theorem dX8_mark_68 : decode cX8_mark 68 = .ok (.iload_n 2, 1) := dgX8_mark_2.2.2.1
theorem dX8_mark_69 : decode cX8_mark 69 = .ok (.iload_n 3, 1) := dgX8_mark_2.2.2.2.1
theorem dX8_mark_70 : decode cX8_mark 70 = .ok (.i2s, 1) := dgX8_mark_2.2.2.2.2.1
theorem dX8_mark_71 : decode cX8_mark 71 = .ok (.invokevirtual 252, 3) := dgX8_mark_2.2.2.2.2.2.1
theorem dX8_mark_74 : decode cX8_mark 74 = .ok (.ireturn, 1) := dgX8_mark_2.2.2.2.2.2.2.1
theorem dX8_mark_75 : decode cX8_mark 75 = .ok (.iload_n 3, 1) := dgX8_mark_2.2.2.2.2.2.2.2.1
theorem dX8_mark_76 : decode cX8_mark 76 = .ok (.ldc 169, 2) := dgX8_mark_2.2.2.2.2.2.2.2.2.1
theorem dX8_mark_78 : decode cX8_mark 78 = .ok (.if_icmp .eq 18, 3) := dgX8_mark_2.2.2.2.2.2.2.2.2.2.1
theorem dX8_mark_81 : decode cX8_mark 81 = .ok (.iload_n 3, 1) := dgX8_mark_2.2.2.2.2.2.2.2.2.2.2.1
theorem dX8_mark_82 : decode cX8_mark 82 = .ok (.ldc 255, 2) := dgX8_mark_2.2.2.2.2.2.2.2.2.2.2.2.1
theorem dX8_mark_84 : decode cX8_mark 84 = .ok (.ldc_w 256, 3) := dgX8_mark_2.2.2.2.2.2.2.2.2.2.2.2.2.1
theorem dX8_mark_87 : decode cX8_mark 87 = .ok (.invokestatic 60, 3) := dgX8_mark_2.2.2.2.2.2.2.2.2.2.2.2.2.2.1
theorem dX8_mark_90 : decode cX8_mark 90 = .ok (.ifCond .ne 6, 3) := dgX8_mark_2.2.2.2.2.2.2.2.2.2.2.2.2.2.2.1
theorem dX8_mark_93 : decode cX8_mark 93 = .ok (.ldc 64, 2) := dgX8_mark_2.2.2.2.2.2.2.2.2.2.2.2.2.2.2.2
theorem dgX8_mark_3 : decode cX8_mark 95 = .ok (.ireturn, 1) ∧ decode cX8_mark 96 = .ok (.aload 4, 2) ∧ decode cX8_mark 98 = .ok (.iload_n 2, 1) ∧ decode cX8_mark 99 = .ok (.iload_n 3, 1) ∧ decode cX8_mark 100 = .ok (.invokevirtual 252, 3) ∧ decode cX8_mark 103 = .ok (.ireturn, 1) := by decide +kernel
theorem dX8_mark_95 : decode cX8_mark 95 = .ok (.ireturn, 1) := dgX8_mark_3.1
theorem dX8_mark_96 : decode cX8_mark 96 = .ok (.aload 4, 2) := dgX8_mark_3.2.1
theorem dX8_mark_98 : decode cX8_mark 98 = .ok (.iload_n 2, 1) := dgX8_mark_3.2.2.1
theorem dX8_mark_99 : decode cX8_mark 99 = .ok (.iload_n 3, 1) := dgX8_mark_3.2.2.2.1
theorem dX8_mark_100 : decode cX8_mark 100 = .ok (.invokevirtual 252, 3) := dgX8_mark_3.2.2.2.2.1
theorem dX8_mark_103 : decode cX8_mark 103 = .ok (.ireturn, 1) := dgX8_mark_3.2.2.2.2.2
abbrev pX8_mark : List Nat := [0, 10, 29, 47, 66, 74, 75, 96]
def bX8_mark_0 (cal : ab_F) : ab_K := o_iload 1 <| o_callS cal 121 1 <| o_if (fun x => decide (¬ x = 0)) 1 <| o_push (.int (-1000000001)) <| o_ret (some .int)
def bX8_mark_1 (cal : ab_F) : ab_K := o_aload 0 <| o_getf 7 5 <| o_iload 1 <| o_aald 3 <| o_astore 4 <| o_aload 4 <| o_callV cal 21 0 1 <| o_if (fun x => decide (x = 0)) 2 <| o_push (.int (-1000000011)) <| o_ret (some .int)
def bX8_mark_2 (cal : ab_F) : ab_K := o_iload 2 <| o_push (.int 0) <| o_aload 4 <| o_getf 1 2 <| o_push (.int 1) <| o_bin (fun x y => x - y) <| o_callS cal 123 3 <| o_if (fun x => decide (¬ x = 0)) 3 <| o_push (.int (-1000000013)) <| o_ret (some .int)
def bX8_mark_3 (cal : ab_F) : ab_K := o_aload 4 <| o_getf 1 1 <| o_if (fun x => decide (¬ x = 0)) 6 <| o_iload 3 <| o_push (.int (-1000000005)) <| o_cmp (fun x y => decide (¬ x = y)) 4 <| o_push (.int (-1000000012)) <| o_goto 5
def bX8_mark_4 (cal : ab_F) : ab_K := o_aload 4 <| o_iload 2 <| o_iload 3 <| o_un (fun x => x.toInt16.toInt32) <| o_callV cal 24 2 1 <| o_goto 5
def bX8_mark_5 (cal : ab_F) : ab_K := o_ret (some .int)
def bX8_mark_6 (cal : ab_F) : ab_K := o_iload 3 <| o_push (.int (-1000000005)) <| o_cmp (fun x y => decide (x = y)) 7 <| o_iload 3 <| o_push (.int (-99999)) <| o_push (.int 99999) <| o_callS cal 123 3 <| o_if (fun x => decide (¬ x = 0)) 7 <| o_push (.int (-1000000001)) <| o_ret (some .int)
def bX8_mark_7 (cal : ab_F) : ab_K := o_aload 4 <| o_iload 2 <| o_iload 3 <| o_callV cal 24 2 1 <| o_ret (some .int)
def bX8_mark (cal : ab_F) : List ab_K := [bX8_mark_0 cal, bX8_mark_1 cal, bX8_mark_2 cal, bX8_mark_3 cal, bX8_mark_4 cal, bX8_mark_5 cal, bX8_mark_6 cal, bX8_mark_7 cal]
set_option maxRecDepth 100000 in
theorem sX8_mark_0 {G : ab_G} {xs : List Int32} {d : Nat} {cal : ab_F} (hcs : ab_CS G (ab_Z G xs) ab_Mf cal d) : ab_Sd G (ab_Z G xs) (d + 1) (ab_mY mX8_mark pX8_mark) 0 (bX8_mark_0 cal) :=
  sn_iload_n dX8_mark_0 rfl <| sq_callS mt_121 hcs dX8_mark_1 w_621 w_622 w_55 w_623 hy_121 hm_121 <| sn_if_ne (tg := 10) dX8_mark_4 rfl rfl <| sn_ldc dX8_mark_7 w_323 <| sn_ret dX8_mark_9 ab_ri_int
set_option maxRecDepth 100000 in
theorem sX8_mark_1 {G : ab_G} {xs : List Int32} {d : Nat} {cal : ab_F} (hcs : ab_CS G (ab_Z G xs) ab_Mf cal d) : ab_Sd G (ab_Z G xs) (d + 1) (ab_mY mX8_mark pX8_mark) 10 (bX8_mark_1 cal) :=
  sn_aload_n dX8_mark_10 rfl <| sn_getf dX8_mark_11 rfl hinX8 (by decide) w_290 <| sn_iload_n dX8_mark_14 rfl <| sn_aald dX8_mark_15 rfl <| sn_astore dX8_mark_16 (by decide) <| sn_aload dX8_mark_18 <| sq_callV mt_21 hcs dX8_mark_20 rfl w_624 w_625 w_626 w_61 w_627 hy_21 hm_21 <| sn_if_eq (tg := 29) dX8_mark_23 rfl rfl <| sn_ldc dX8_mark_26 w_628 <| sn_ret dX8_mark_28 ab_ri_int
set_option maxRecDepth 100000 in
theorem sX8_mark_2 {G : ab_G} {xs : List Int32} {d : Nat} {cal : ab_F} (hcs : ab_CS G (ab_Z G xs) ab_Mf cal d) : ab_Sd G (ab_Z G xs) (d + 1) (ab_mY mX8_mark pX8_mark) 29 (bX8_mark_2 cal) :=
  sn_iload_n dX8_mark_29 rfl <| sn_iconst dX8_mark_30 rfl <| sn_aload dX8_mark_31 <| sn_getf dX8_mark_33 rfl hinX2 (by decide) w_247 <| sn_iconst dX8_mark_36 rfl <| sn_isub dX8_mark_37 <| sq_callS mt_123 hcs dX8_mark_38 w_320 w_321 w_55 w_322 hy_123 hm_123 <| sn_if_ne (tg := 47) dX8_mark_41 rfl rfl <| sn_ldc dX8_mark_44 w_901 <| sn_ret dX8_mark_46 ab_ri_int
set_option maxRecDepth 100000 in
theorem sX8_mark_3 {G : ab_G} {xs : List Int32} {d : Nat} {cal : ab_F} (hcs : ab_CS G (ab_Z G xs) ab_Mf cal d) : ab_Sd G (ab_Z G xs) (d + 1) (ab_mY mX8_mark pX8_mark) 47 (bX8_mark_3 cal) :=
  sn_aload dX8_mark_47 <| sn_getf dX8_mark_49 rfl hinX2 (by decide) w_245 <| sn_if_ne (tg := 75) dX8_mark_52 rfl rfl <| sn_iload_n dX8_mark_55 rfl <| sn_ldc dX8_mark_56 w_534 <| sn_cmp_ne (tg := 66) dX8_mark_58 rfl rfl <| sn_ldc dX8_mark_61 w_417 <| sn_goto (tg := 74) dX8_mark_63 rfl rfl
set_option maxRecDepth 100000 in
theorem sX8_mark_4 {G : ab_G} {xs : List Int32} {d : Nat} {cal : ab_F} (hcs : ab_CS G (ab_Z G xs) ab_Mf cal d) : ab_Sd G (ab_Z G xs) (d + 1) (ab_mY mX8_mark pX8_mark) 66 (bX8_mark_4 cal) :=
  sn_aload dX8_mark_66 <| sn_iload_n dX8_mark_68 rfl <| sn_iload_n dX8_mark_69 rfl <| sn_i2s dX8_mark_70 <| sq_callV mt_24 hcs dX8_mark_71 rfl w_902 w_903 w_904 w_61 w_905 hy_24 hm_24 <| sn_next rfl
set_option maxRecDepth 100000 in
theorem sX8_mark_5 {G : ab_G} {xs : List Int32} {d : Nat} {cal : ab_F} (hcs : ab_CS G (ab_Z G xs) ab_Mf cal d) : ab_Sd G (ab_Z G xs) (d + 1) (ab_mY mX8_mark pX8_mark) 74 (bX8_mark_5 cal) :=
  sn_ret dX8_mark_74 ab_ri_int
set_option maxRecDepth 100000 in
theorem sX8_mark_6 {G : ab_G} {xs : List Int32} {d : Nat} {cal : ab_F} (hcs : ab_CS G (ab_Z G xs) ab_Mf cal d) : ab_Sd G (ab_Z G xs) (d + 1) (ab_mY mX8_mark pX8_mark) 75 (bX8_mark_6 cal) :=
  sn_iload_n dX8_mark_75 rfl <| sn_ldc dX8_mark_76 w_534 <| sn_cmp_eq (tg := 96) dX8_mark_78 rfl rfl <| sn_iload_n dX8_mark_81 rfl <| sn_ldc dX8_mark_82 w_906 <| sn_ldcw dX8_mark_84 w_907 <| sq_callS mt_123 hcs dX8_mark_87 w_320 w_321 w_55 w_322 hy_123 hm_123 <| sn_if_ne (tg := 96) dX8_mark_90 rfl rfl <| sn_ldc dX8_mark_93 w_323 <| sn_ret dX8_mark_95 ab_ri_int
set_option maxRecDepth 100000 in
theorem sX8_mark_7 {G : ab_G} {xs : List Int32} {d : Nat} {cal : ab_F} (hcs : ab_CS G (ab_Z G xs) ab_Mf cal d) : ab_Sd G (ab_Z G xs) (d + 1) (ab_mY mX8_mark pX8_mark) 96 (bX8_mark_7 cal) :=
  sn_aload dX8_mark_96 <| sn_iload_n dX8_mark_98 rfl <| sn_iload_n dX8_mark_99 rfl <| sq_callV mt_24 hcs dX8_mark_100 rfl w_902 w_903 w_904 w_61 w_905 hy_24 hm_24 <| sn_ret dX8_mark_103 ab_ri_int
theorem sX8_mark {G : ab_G} {xs : List Int32} {d : Nat} {cal : ab_F} (hcs : ab_CS G (ab_Z G xs) ab_Mf cal d) : ab_BS G (ab_Z G xs) (d + 1) (ab_mY mX8_mark pX8_mark) pX8_mark (bX8_mark cal) := ⟨sX8_mark_0 hcs, sX8_mark_1 hcs, sX8_mark_2 hcs, sX8_mark_3 hcs, sX8_mark_4 hcs, sX8_mark_5 hcs, sX8_mark_6 hcs, sX8_mark_7 hcs, trivial⟩
theorem dgX8_pour_0 : decode cX8_pour 0 = .ok (.iload_n 1, 1) ∧ decode cX8_pour 1 = .ok (.invokestatic 190, 3) ∧ decode cX8_pour 4 = .ok (.ifCond .ne 6, 3) ∧ decode cX8_pour 7 = .ok (.ldc 64, 2) ∧ decode cX8_pour 9 = .ok (.ireturn, 1) ∧ decode cX8_pour 10 = .ok (.aload_n 0, 1) ∧ decode cX8_pour 11 = .ok (.getfield 44, 3) ∧ decode cX8_pour 14 = .ok (.iload_n 1, 1) ∧ decode cX8_pour 15 = .ok (.aaload, 1) ∧ decode cX8_pour 16 = .ok (.astore_n 2, 1) ∧ decode cX8_pour 17 = .ok (.aload_n 2, 1) ∧ decode cX8_pour 18 = .ok (.invokevirtual 193, 3) ∧ decode cX8_pour 21 = .ok (.ifCond .eq 6, 3) ∧ decode cX8_pour 24 = .ok (.ldc 197, 2) ∧ decode cX8_pour 26 = .ok (.ireturn, 1) ∧ decode cX8_pour 27 = .ok (.iconst 0, 1) := by decide +kernel
theorem dX8_pour_0 : decode cX8_pour 0 = .ok (.iload_n 1, 1) := dgX8_pour_0.1
theorem dX8_pour_1 : decode cX8_pour 1 = .ok (.invokestatic 190, 3) := dgX8_pour_0.2.1
theorem dX8_pour_4 : decode cX8_pour 4 = .ok (.ifCond .ne 6, 3) := dgX8_pour_0.2.2.1
theorem dX8_pour_7 : decode cX8_pour 7 = .ok (.ldc 64, 2) := dgX8_pour_0.2.2.2.1
theorem dX8_pour_9 : decode cX8_pour 9 = .ok (.ireturn, 1) := dgX8_pour_0.2.2.2.2.1
theorem dX8_pour_10 : decode cX8_pour 10 = .ok (.aload_n 0, 1) := dgX8_pour_0.2.2.2.2.2.1
theorem dX8_pour_11 : decode cX8_pour 11 = .ok (.getfield 44, 3) := dgX8_pour_0.2.2.2.2.2.2.1
theorem dX8_pour_14 : decode cX8_pour 14 = .ok (.iload_n 1, 1) := dgX8_pour_0.2.2.2.2.2.2.2.1
theorem dX8_pour_15 : decode cX8_pour 15 = .ok (.aaload, 1) := dgX8_pour_0.2.2.2.2.2.2.2.2.1
theorem dX8_pour_16 : decode cX8_pour 16 = .ok (.astore_n 2, 1) := dgX8_pour_0.2.2.2.2.2.2.2.2.2.1
theorem dX8_pour_17 : decode cX8_pour 17 = .ok (.aload_n 2, 1) := dgX8_pour_0.2.2.2.2.2.2.2.2.2.2.1
theorem dX8_pour_18 : decode cX8_pour 18 = .ok (.invokevirtual 193, 3) := dgX8_pour_0.2.2.2.2.2.2.2.2.2.2.2.1
theorem dX8_pour_21 : decode cX8_pour 21 = .ok (.ifCond .eq 6, 3) := dgX8_pour_0.2.2.2.2.2.2.2.2.2.2.2.2.1
theorem dX8_pour_24 : decode cX8_pour 24 = .ok (.ldc 197, 2) := dgX8_pour_0.2.2.2.2.2.2.2.2.2.2.2.2.2.1
theorem dX8_pour_26 : decode cX8_pour 26 = .ok (.ireturn, 1) := dgX8_pour_0.2.2.2.2.2.2.2.2.2.2.2.2.2.2.1
theorem dX8_pour_27 : decode cX8_pour 27 = .ok (.iconst 0, 1) := dgX8_pour_0.2.2.2.2.2.2.2.2.2.2.2.2.2.2.2
theorem dgX8_pour_1 : decode cX8_pour 28 = .ok (.istore_n 3, 1) ∧ decode cX8_pour 29 = .ok (.iconst 0, 1) ∧ decode cX8_pour 30 = .ok (.istore 4, 2) ∧ decode cX8_pour 32 = .ok (.iload 4, 2) ∧ decode cX8_pour 34 = .ok (.bipush 24, 2) ∧ decode cX8_pour 36 = .ok (.if_icmp .ge 68, 3) ∧ decode cX8_pour 39 = .ok (.aload_n 2, 1) ∧ decode cX8_pour 40 = .ok (.iload 4, 2) ∧ decode cX8_pour 42 = .ok (.invokevirtual 257, 3) ∧ decode cX8_pour 45 = .ok (.ifCond .eq 53, 3) ∧ decode cX8_pour 48 = .ok (.aload_n 2, 1) ∧ decode cX8_pour 49 = .ok (.getfield 260, 3) ∧ decode cX8_pour 52 = .ok (.iload 4, 2) ∧ decode cX8_pour 54 = .ok (.iaload, 1) ∧ decode cX8_pour 55 = .ok (.iconst 0, 1) ∧ decode cX8_pour 56 = .ok (.bipush 99, 2) := by decide +kernel
theorem dX8_pour_28 : decode cX8_pour 28 = .ok (.istore_n 3, 1) := dgX8_pour_1.1
theorem dX8_pour_29 : decode cX8_pour 29 = .ok (.iconst 0, 1) := dgX8_pour_1.2.1
theorem dX8_pour_30 : decode cX8_pour 30 = .ok (.istore 4, 2) := dgX8_pour_1.2.2.1
theorem dX8_pour_32 : decode cX8_pour 32 = .ok (.iload 4, 2) := dgX8_pour_1.2.2.2.1
theorem dX8_pour_34 : decode cX8_pour 34 = .ok (.bipush 24, 2) := dgX8_pour_1.2.2.2.2.1
theorem dX8_pour_36 : decode cX8_pour 36 = .ok (.if_icmp .ge 68, 3) := dgX8_pour_1.2.2.2.2.2.1
theorem dX8_pour_39 : decode cX8_pour 39 = .ok (.aload_n 2, 1) := dgX8_pour_1.2.2.2.2.2.2.1
theorem dX8_pour_40 : decode cX8_pour 40 = .ok (.iload 4, 2) := dgX8_pour_1.2.2.2.2.2.2.2.1
theorem dX8_pour_42 : decode cX8_pour 42 = .ok (.invokevirtual 257, 3) := dgX8_pour_1.2.2.2.2.2.2.2.2.1
theorem dX8_pour_45 : decode cX8_pour 45 = .ok (.ifCond .eq 53, 3) := dgX8_pour_1.2.2.2.2.2.2.2.2.2.1
theorem dX8_pour_48 : decode cX8_pour 48 = .ok (.aload_n 2, 1) := dgX8_pour_1.2.2.2.2.2.2.2.2.2.2.1
theorem dX8_pour_49 : decode cX8_pour 49 = .ok (.getfield 260, 3) := dgX8_pour_1.2.2.2.2.2.2.2.2.2.2.2.1
theorem dX8_pour_52 : decode cX8_pour 52 = .ok (.iload 4, 2) := dgX8_pour_1.2.2.2.2.2.2.2.2.2.2.2.2.1
theorem dX8_pour_54 : decode cX8_pour 54 = .ok (.iaload, 1) := dgX8_pour_1.2.2.2.2.2.2.2.2.2.2.2.2.2.1
theorem dX8_pour_55 : decode cX8_pour 55 = .ok (.iconst 0, 1) := dgX8_pour_1.2.2.2.2.2.2.2.2.2.2.2.2.2.2.1
theorem dX8_pour_56 : decode cX8_pour 56 = .ok (.bipush 99, 2) := dgX8_pour_1.2.2.2.2.2.2.2.2.2.2.2.2.2.2.2
theorem dgX8_pour_2 : decode cX8_pour 58 = .ok (.invokestatic 263, 3) ∧ decode cX8_pour 61 = .ok (.istore 5, 2) ∧ decode cX8_pour 63 = .ok (.iload_n 3, 1) ∧ decode cX8_pour 64 = .ok (.iload 5, 2) ∧ decode cX8_pour 66 = .ok (.aload_n 0, 1) ∧ decode cX8_pour 67 = .ok (.getfield 10, 3) ∧ decode cX8_pour 70 = .ok (.getfield 125, 3) ∧ decode cX8_pour 73 = .ok (.iload 4, 2) ∧ decode cX8_pour 75 = .ok (.iaload, 1) ∧ decode cX8_pour 76 = .ok (.if_icmp .ne 7, 3) ∧ decode cX8_pour 79 = .ok (.iconst 0, 1) ∧ decode cX8_pour 80 = .ok (.goto 4, 3) ∧ decode cX8_pour 83 = .ok (.iconst 1, 1) ∧ decode cX8_pour 84 = .ok (.iadd, 1) ∧ decode cX8_pour 85 = .ok (.istore_n 3, 1) ∧ decode cX8_pour 86 = .ok (.aload_n 0, 1) := by decide +kernel
theorem dX8_pour_58 : decode cX8_pour 58 = .ok (.invokestatic 263, 3) := dgX8_pour_2.1
theorem dX8_pour_61 : decode cX8_pour 61 = .ok (.istore 5, 2) := dgX8_pour_2.2.1
theorem dX8_pour_63 : decode cX8_pour 63 = .ok (.iload_n 3, 1) := dgX8_pour_2.2.2.1
theorem dX8_pour_64 : decode cX8_pour 64 = .ok (.iload 5, 2) := dgX8_pour_2.2.2.2.1
theorem dX8_pour_66 : decode cX8_pour 66 = .ok (.aload_n 0, 1) := dgX8_pour_2.2.2.2.2.1
theorem dX8_pour_67 : decode cX8_pour 67 = .ok (.getfield 10, 3) := dgX8_pour_2.2.2.2.2.2.1
theorem dX8_pour_70 : decode cX8_pour 70 = .ok (.getfield 125, 3) := dgX8_pour_2.2.2.2.2.2.2.1
theorem dX8_pour_73 : decode cX8_pour 73 = .ok (.iload 4, 2) := dgX8_pour_2.2.2.2.2.2.2.2.1
theorem dX8_pour_75 : decode cX8_pour 75 = .ok (.iaload, 1) := dgX8_pour_2.2.2.2.2.2.2.2.2.1
theorem dX8_pour_76 : decode cX8_pour 76 = .ok (.if_icmp .ne 7, 3) := dgX8_pour_2.2.2.2.2.2.2.2.2.2.1
theorem dX8_pour_79 : decode cX8_pour 79 = .ok (.iconst 0, 1) := dgX8_pour_2.2.2.2.2.2.2.2.2.2.2.1
theorem dX8_pour_80 : decode cX8_pour 80 = .ok (.goto 4, 3) := dgX8_pour_2.2.2.2.2.2.2.2.2.2.2.2.1
theorem dX8_pour_83 : decode cX8_pour 83 = .ok (.iconst 1, 1) := dgX8_pour_2.2.2.2.2.2.2.2.2.2.2.2.2.1
theorem dX8_pour_84 : decode cX8_pour 84 = .ok (.iadd, 1) := dgX8_pour_2.2.2.2.2.2.2.2.2.2.2.2.2.2.1
theorem dX8_pour_85 : decode cX8_pour 85 = .ok (.istore_n 3, 1) := dgX8_pour_2.2.2.2.2.2.2.2.2.2.2.2.2.2.2.1
theorem dX8_pour_86 : decode cX8_pour 86 = .ok (.aload_n 0, 1) := dgX8_pour_2.2.2.2.2.2.2.2.2.2.2.2.2.2.2.2
theorem dgX8_pour_3 : decode cX8_pour 87 = .ok (.getfield 10, 3) ∧ decode cX8_pour 90 = .ok (.getfield 125, 3) ∧ decode cX8_pour 93 = .ok (.iload 4, 2) ∧ decode cX8_pour 95 = .ok (.iload 5, 2) ∧ decode cX8_pour 97 = .ok (.iastore, 1) ∧ decode cX8_pour 98 = .ok (.iinc 4 1, 3) ∧ decode cX8_pour 101 = .ok (.goto (-69), 3) ∧ decode cX8_pour 104 = .ok (.iload_n 3, 1) ∧ decode cX8_pour 105 = .ok (.ireturn, 1) := by decide +kernel
theorem dX8_pour_87 : decode cX8_pour 87 = .ok (.getfield 10, 3) := dgX8_pour_3.1
theorem dX8_pour_90 : decode cX8_pour 90 = .ok (.getfield 125, 3) := dgX8_pour_3.2.1
theorem dX8_pour_93 : decode cX8_pour 93 = .ok (.iload 4, 2) := dgX8_pour_3.2.2.1
theorem dX8_pour_95 : decode cX8_pour 95 = .ok (.iload 5, 2) := dgX8_pour_3.2.2.2.1
theorem dX8_pour_97 : decode cX8_pour 97 = .ok (.iastore, 1) := dgX8_pour_3.2.2.2.2.1
theorem dX8_pour_98 : decode cX8_pour 98 = .ok (.iinc 4 1, 3) := dgX8_pour_3.2.2.2.2.2.1
theorem dX8_pour_101 : decode cX8_pour 101 = .ok (.goto (-69), 3) := dgX8_pour_3.2.2.2.2.2.2.1
theorem dX8_pour_104 : decode cX8_pour 104 = .ok (.iload_n 3, 1) := dgX8_pour_3.2.2.2.2.2.2.2.1
theorem dX8_pour_105 : decode cX8_pour 105 = .ok (.ireturn, 1) := dgX8_pour_3.2.2.2.2.2.2.2.2
abbrev pX8_pour : List Nat := [0, 10, 27, 32, 83, 84, 98, 104]
def bX8_pour_0 (cal : ab_F) : ab_K := o_iload 1 <| o_callS cal 121 1 <| o_if (fun x => decide (¬ x = 0)) 1 <| o_push (.int (-1000000001)) <| o_ret (some .int)
def bX8_pour_1 (cal : ab_F) : ab_K := o_aload 0 <| o_getf 7 5 <| o_iload 1 <| o_aald 3 <| o_astore 2 <| o_aload 2 <| o_callV cal 21 0 1 <| o_if (fun x => decide (x = 0)) 2 <| o_push (.int (-1000000011)) <| o_ret (some .int)
def bX8_pour_2 (cal : ab_F) : ab_K := o_push (.int 0) <| o_istore 3 <| o_push (.int 0) <| o_istore 4 <| o_goto 3
def bX8_pour_3 (cal : ab_F) : ab_K := o_iload 4 <| o_push (.int 24) <| o_cmp (fun x y => decide (y ≤ x)) 7 <| o_aload 2 <| o_iload 4 <| o_callV cal 25 1 1 <| o_if (fun x => decide (x = 0)) 6 <| o_aload 2 <| o_getf 1 0 <| o_iload 4 <| o_iald 0 <| o_push (.int 0) <| o_push (.int 99) <| o_callS cal 124 3 <| o_istore 5 <| o_iload 3 <| o_iload 5 <| o_aload 0 <| o_getf 7 0 <| o_getf 3 6 <| o_iload 4 <| o_iald 0 <| o_cmp (fun x y => decide (¬ x = y)) 4 <| o_push (.int 0) <| o_goto 5
def bX8_pour_4 (cal : ab_F) : ab_K := o_push (.int 1) <| o_goto 5
def bX8_pour_5 (cal : ab_F) : ab_K := o_bin (fun x y => x + y) <| o_istore 3 <| o_aload 0 <| o_getf 7 0 <| o_getf 3 6 <| o_iload 4 <| o_iload 5 <| o_iast 0 (fun x => x) <| o_goto 6
def bX8_pour_6 (cal : ab_F) : ab_K := o_iinc 4 1 <| o_goto 3
def bX8_pour_7 (cal : ab_F) : ab_K := o_iload 3 <| o_ret (some .int)
def bX8_pour (cal : ab_F) : List ab_K := [bX8_pour_0 cal, bX8_pour_1 cal, bX8_pour_2 cal, bX8_pour_3 cal, bX8_pour_4 cal, bX8_pour_5 cal, bX8_pour_6 cal, bX8_pour_7 cal]
set_option maxRecDepth 100000 in
theorem sX8_pour_0 {G : ab_G} {xs : List Int32} {d : Nat} {cal : ab_F} (hcs : ab_CS G (ab_Z G xs) ab_Mf cal d) : ab_Sd G (ab_Z G xs) (d + 1) (ab_mY mX8_pour pX8_pour) 0 (bX8_pour_0 cal) :=
  sn_iload_n dX8_pour_0 rfl <| sq_callS mt_121 hcs dX8_pour_1 w_621 w_622 w_55 w_623 hy_121 hm_121 <| sn_if_ne (tg := 10) dX8_pour_4 rfl rfl <| sn_ldc dX8_pour_7 w_323 <| sn_ret dX8_pour_9 ab_ri_int
set_option maxRecDepth 100000 in
theorem sX8_pour_1 {G : ab_G} {xs : List Int32} {d : Nat} {cal : ab_F} (hcs : ab_CS G (ab_Z G xs) ab_Mf cal d) : ab_Sd G (ab_Z G xs) (d + 1) (ab_mY mX8_pour pX8_pour) 10 (bX8_pour_1 cal) :=
  sn_aload_n dX8_pour_10 rfl <| sn_getf dX8_pour_11 rfl hinX8 (by decide) w_290 <| sn_iload_n dX8_pour_14 rfl <| sn_aald dX8_pour_15 rfl <| sn_astore_n dX8_pour_16 rfl (by decide) <| sn_aload_n dX8_pour_17 rfl <| sq_callV mt_21 hcs dX8_pour_18 rfl w_624 w_625 w_626 w_61 w_627 hy_21 hm_21 <| sn_if_eq (tg := 27) dX8_pour_21 rfl rfl <| sn_ldc dX8_pour_24 w_628 <| sn_ret dX8_pour_26 ab_ri_int
set_option maxRecDepth 100000 in
theorem sX8_pour_2 {G : ab_G} {xs : List Int32} {d : Nat} {cal : ab_F} (hcs : ab_CS G (ab_Z G xs) ab_Mf cal d) : ab_Sd G (ab_Z G xs) (d + 1) (ab_mY mX8_pour pX8_pour) 27 (bX8_pour_2 cal) :=
  sn_iconst dX8_pour_27 rfl <| sn_istore_n dX8_pour_28 rfl (by decide) <| sn_iconst dX8_pour_29 rfl <| sn_istore dX8_pour_30 (by decide) <| sn_next rfl
set_option maxRecDepth 100000 in
theorem sX8_pour_3 {G : ab_G} {xs : List Int32} {d : Nat} {cal : ab_F} (hcs : ab_CS G (ab_Z G xs) ab_Mf cal d) : ab_Sd G (ab_Z G xs) (d + 1) (ab_mY mX8_pour pX8_pour) 32 (bX8_pour_3 cal) :=
  sn_iload dX8_pour_32 <| sn_bipush dX8_pour_34 rfl <| sn_cmp_ge (tg := 104) dX8_pour_36 rfl rfl <| sn_aload_n dX8_pour_39 rfl <| sn_iload dX8_pour_40 <| sq_callV mt_25 hcs dX8_pour_42 rfl w_912 w_634 w_635 w_61 w_636 hy_25 hm_25 <| sn_if_eq (tg := 98) dX8_pour_45 rfl rfl <| sn_aload_n dX8_pour_48 rfl <| sn_getf dX8_pour_49 rfl hinX2 (by decide) w_243 <| sn_iload dX8_pour_52 <| sn_iald dX8_pour_54 rfl <| sn_iconst dX8_pour_55 rfl <| sn_bipush dX8_pour_56 rfl <| sq_callS mt_124 hcs dX8_pour_58 w_913 w_369 w_55 w_370 hy_124 hm_124 <| sn_istore dX8_pour_61 (by decide) <| sn_iload_n dX8_pour_63 rfl <| sn_iload dX8_pour_64 <| sn_aload_n dX8_pour_66 rfl <| sn_getf dX8_pour_67 rfl hinX8 (by decide) w_285 <| sn_getf dX8_pour_70 rfl hinX4 (by decide) w_107 <| sn_iload dX8_pour_73 <| sn_iald dX8_pour_75 rfl <| sn_cmp_ne (tg := 83) dX8_pour_76 rfl rfl <| sn_iconst dX8_pour_79 rfl <| sn_goto (tg := 84) dX8_pour_80 rfl rfl
set_option maxRecDepth 100000 in
theorem sX8_pour_4 {G : ab_G} {xs : List Int32} {d : Nat} {cal : ab_F} (hcs : ab_CS G (ab_Z G xs) ab_Mf cal d) : ab_Sd G (ab_Z G xs) (d + 1) (ab_mY mX8_pour pX8_pour) 83 (bX8_pour_4 cal) :=
  sn_iconst dX8_pour_83 rfl <| sn_next rfl
set_option maxRecDepth 100000 in
theorem sX8_pour_5 {G : ab_G} {xs : List Int32} {d : Nat} {cal : ab_F} (hcs : ab_CS G (ab_Z G xs) ab_Mf cal d) : ab_Sd G (ab_Z G xs) (d + 1) (ab_mY mX8_pour pX8_pour) 84 (bX8_pour_5 cal) :=
  sn_iadd dX8_pour_84 <| sn_istore_n dX8_pour_85 rfl (by decide) <| sn_aload_n dX8_pour_86 rfl <| sn_getf dX8_pour_87 rfl hinX8 (by decide) w_285 <| sn_getf dX8_pour_90 rfl hinX4 (by decide) w_107 <| sn_iload dX8_pour_93 <| sn_iload dX8_pour_95 <| sn_iast dX8_pour_97 rfl rfl <| sn_next rfl
set_option maxRecDepth 100000 in
theorem sX8_pour_6 {G : ab_G} {xs : List Int32} {d : Nat} {cal : ab_F} (hcs : ab_CS G (ab_Z G xs) ab_Mf cal d) : ab_Sd G (ab_Z G xs) (d + 1) (ab_mY mX8_pour pX8_pour) 98 (bX8_pour_6 cal) :=
  sn_iinc dX8_pour_98 rfl (by decide) <| sn_goto (tg := 32) dX8_pour_101 rfl rfl
set_option maxRecDepth 100000 in
theorem sX8_pour_7 {G : ab_G} {xs : List Int32} {d : Nat} {cal : ab_F} (hcs : ab_CS G (ab_Z G xs) ab_Mf cal d) : ab_Sd G (ab_Z G xs) (d + 1) (ab_mY mX8_pour pX8_pour) 104 (bX8_pour_7 cal) :=
  sn_iload_n dX8_pour_104 rfl <| sn_ret dX8_pour_105 ab_ri_int
theorem sX8_pour {G : ab_G} {xs : List Int32} {d : Nat} {cal : ab_F} (hcs : ab_CS G (ab_Z G xs) ab_Mf cal d) : ab_BS G (ab_Z G xs) (d + 1) (ab_mY mX8_pour pX8_pour) pX8_pour (bX8_pour cal) := ⟨sX8_pour_0 hcs, sX8_pour_1 hcs, sX8_pour_2 hcs, sX8_pour_3 hcs, sX8_pour_4 hcs, sX8_pour_5 hcs, sX8_pour_6 hcs, sX8_pour_7 hcs, trivial⟩
theorem dgX8_reads_0 : decode cX8_reads 0 = .ok (.iload_n 1, 1) ∧ decode cX8_reads 1 = .ok (.invokestatic 190, 3) ∧ decode cX8_reads 4 = .ok (.ifCond .ne 6, 3) ∧ decode cX8_reads 7 = .ok (.ldc 64, 2) ∧ decode cX8_reads 9 = .ok (.ireturn, 1) ∧ decode cX8_reads 10 = .ok (.aload_n 0, 1) ∧ decode cX8_reads 11 = .ok (.getfield 44, 3) ∧ decode cX8_reads 14 = .ok (.iload_n 1, 1) ∧ decode cX8_reads 15 = .ok (.aaload, 1) ∧ decode cX8_reads 16 = .ok (.astore_n 2, 1) ∧ decode cX8_reads 17 = .ok (.aload_n 2, 1) ∧ decode cX8_reads 18 = .ok (.invokevirtual 193, 3) ∧ decode cX8_reads 21 = .ok (.ifCond .eq 6, 3) ∧ decode cX8_reads 24 = .ok (.ldc 197, 2) ∧ decode cX8_reads 26 = .ok (.ireturn, 1) ∧ decode cX8_reads 27 = .ok (.iconst 0, 1) := by decide +kernel
theorem dX8_reads_0 : decode cX8_reads 0 = .ok (.iload_n 1, 1) := dgX8_reads_0.1
theorem dX8_reads_1 : decode cX8_reads 1 = .ok (.invokestatic 190, 3) := dgX8_reads_0.2.1
theorem dX8_reads_4 : decode cX8_reads 4 = .ok (.ifCond .ne 6, 3) := dgX8_reads_0.2.2.1
theorem dX8_reads_7 : decode cX8_reads 7 = .ok (.ldc 64, 2) := dgX8_reads_0.2.2.2.1
theorem dX8_reads_9 : decode cX8_reads 9 = .ok (.ireturn, 1) := dgX8_reads_0.2.2.2.2.1
theorem dX8_reads_10 : decode cX8_reads 10 = .ok (.aload_n 0, 1) := dgX8_reads_0.2.2.2.2.2.1
theorem dX8_reads_11 : decode cX8_reads 11 = .ok (.getfield 44, 3) := dgX8_reads_0.2.2.2.2.2.2.1
theorem dX8_reads_14 : decode cX8_reads 14 = .ok (.iload_n 1, 1) := dgX8_reads_0.2.2.2.2.2.2.2.1
theorem dX8_reads_15 : decode cX8_reads 15 = .ok (.aaload, 1) := dgX8_reads_0.2.2.2.2.2.2.2.2.1
theorem dX8_reads_16 : decode cX8_reads 16 = .ok (.astore_n 2, 1) := dgX8_reads_0.2.2.2.2.2.2.2.2.2.1
theorem dX8_reads_17 : decode cX8_reads 17 = .ok (.aload_n 2, 1) := dgX8_reads_0.2.2.2.2.2.2.2.2.2.2.1
theorem dX8_reads_18 : decode cX8_reads 18 = .ok (.invokevirtual 193, 3) := dgX8_reads_0.2.2.2.2.2.2.2.2.2.2.2.1
theorem dX8_reads_21 : decode cX8_reads 21 = .ok (.ifCond .eq 6, 3) := dgX8_reads_0.2.2.2.2.2.2.2.2.2.2.2.2.1
theorem dX8_reads_24 : decode cX8_reads 24 = .ok (.ldc 197, 2) := dgX8_reads_0.2.2.2.2.2.2.2.2.2.2.2.2.2.1
theorem dX8_reads_26 : decode cX8_reads 26 = .ok (.ireturn, 1) := dgX8_reads_0.2.2.2.2.2.2.2.2.2.2.2.2.2.2.1
theorem dX8_reads_27 : decode cX8_reads 27 = .ok (.iconst 0, 1) := dgX8_reads_0.2.2.2.2.2.2.2.2.2.2.2.2.2.2.2
theorem dgX8_reads_1 : decode cX8_reads 28 = .ok (.istore_n 3, 1) ∧ decode cX8_reads 29 = .ok (.iload_n 3, 1) ∧ decode cX8_reads 30 = .ok (.aload_n 2, 1) ∧ decode cX8_reads 31 = .ok (.getfield 247, 3) ∧ decode cX8_reads 34 = .ok (.if_icmp .ge 43, 3) ∧ decode cX8_reads 37 = .ok (.aload_n 2, 1) ∧ decode cX8_reads 38 = .ok (.iload_n 3, 1) ∧ decode cX8_reads 39 = .ok (.invokevirtual 257, 3) ∧ decode cX8_reads 42 = .ok (.ifCond .eq 29, 3) ∧ decode cX8_reads 45 = .ok (.iload_n 3, 1) ∧ decode cX8_reads 46 = .ok (.bipush 12, 2) ∧ decode cX8_reads 48 = .ok (.if_icmp .ge 21, 3) ∧ decode cX8_reads 51 = .ok (.aload_n 2, 1) ∧ decode cX8_reads 52 = .ok (.getfield 260, 3) ∧ decode cX8_reads 55 = .ok (.iload_n 3, 1) ∧ decode cX8_reads 56 = .ok (.iaload, 1) := by decide +kernel
theorem dX8_reads_28 : decode cX8_reads 28 = .ok (.istore_n 3, 1) := dgX8_reads_1.1
theorem dX8_reads_29 : decode cX8_reads 29 = .ok (.iload_n 3, 1) := dgX8_reads_1.2.1
theorem dX8_reads_30 : decode cX8_reads 30 = .ok (.aload_n 2, 1) := dgX8_reads_1.2.2.1
theorem dX8_reads_31 : decode cX8_reads 31 = .ok (.getfield 247, 3) := dgX8_reads_1.2.2.2.1
theorem dX8_reads_34 : decode cX8_reads 34 = .ok (.if_icmp .ge 43, 3) := dgX8_reads_1.2.2.2.2.1
theorem dX8_reads_37 : decode cX8_reads 37 = .ok (.aload_n 2, 1) := dgX8_reads_1.2.2.2.2.2.1
theorem dX8_reads_38 : decode cX8_reads 38 = .ok (.iload_n 3, 1) := dgX8_reads_1.2.2.2.2.2.2.1
theorem dX8_reads_39 : decode cX8_reads 39 = .ok (.invokevirtual 257, 3) := dgX8_reads_1.2.2.2.2.2.2.2.1
theorem dX8_reads_42 : decode cX8_reads 42 = .ok (.ifCond .eq 29, 3) := dgX8_reads_1.2.2.2.2.2.2.2.2.1
theorem dX8_reads_45 : decode cX8_reads 45 = .ok (.iload_n 3, 1) := dgX8_reads_1.2.2.2.2.2.2.2.2.2.1
theorem dX8_reads_46 : decode cX8_reads 46 = .ok (.bipush 12, 2) := dgX8_reads_1.2.2.2.2.2.2.2.2.2.2.1
theorem dX8_reads_48 : decode cX8_reads 48 = .ok (.if_icmp .ge 21, 3) := dgX8_reads_1.2.2.2.2.2.2.2.2.2.2.2.1
theorem dX8_reads_51 : decode cX8_reads 51 = .ok (.aload_n 2, 1) := dgX8_reads_1.2.2.2.2.2.2.2.2.2.2.2.2.1
theorem dX8_reads_52 : decode cX8_reads 52 = .ok (.getfield 260, 3) := dgX8_reads_1.2.2.2.2.2.2.2.2.2.2.2.2.2.1
theorem dX8_reads_55 : decode cX8_reads 55 = .ok (.iload_n 3, 1) := dgX8_reads_1.2.2.2.2.2.2.2.2.2.2.2.2.2.2.1
theorem dX8_reads_56 : decode cX8_reads 56 = .ok (.iaload, 1) := dgX8_reads_1.2.2.2.2.2.2.2.2.2.2.2.2.2.2.2
theorem dgX8_reads_2 : decode cX8_reads 57 = .ok (.aload_n 0, 1) ∧ decode cX8_reads 58 = .ok (.getfield 10, 3) ∧ decode cX8_reads 61 = .ok (.getfield 117, 3) ∧ decode cX8_reads 64 = .ok (.iload_n 3, 1) ∧ decode cX8_reads 65 = .ok (.iaload, 1) ∧ decode cX8_reads 66 = .ok (.if_icmp .eq 5, 3) ∧ decode cX8_reads 69 = .ok (.iload_n 3, 1) ∧ decode cX8_reads 70 = .ok (.ireturn, 1) ∧ decode cX8_reads 71 = .ok (.iinc 3 1, 3) ∧ decode cX8_reads 74 = .ok (.goto (-45), 3) ∧ decode cX8_reads 77 = .ok (.ldc 169, 2) ∧ decode cX8_reads 79 = .ok (.ireturn, 1) := by decide +kernel
theorem dX8_reads_57 : decode cX8_reads 57 = .ok (.aload_n 0, 1) := dgX8_reads_2.1
theorem dX8_reads_58 : decode cX8_reads 58 = .ok (.getfield 10, 3) := dgX8_reads_2.2.1
theorem dX8_reads_61 : decode cX8_reads 61 = .ok (.getfield 117, 3) := dgX8_reads_2.2.2.1
theorem dX8_reads_64 : decode cX8_reads 64 = .ok (.iload_n 3, 1) := dgX8_reads_2.2.2.2.1
theorem dX8_reads_65 : decode cX8_reads 65 = .ok (.iaload, 1) := dgX8_reads_2.2.2.2.2.1
theorem dX8_reads_66 : decode cX8_reads 66 = .ok (.if_icmp .eq 5, 3) := dgX8_reads_2.2.2.2.2.2.1
theorem dX8_reads_69 : decode cX8_reads 69 = .ok (.iload_n 3, 1) := dgX8_reads_2.2.2.2.2.2.2.1
theorem dX8_reads_70 : decode cX8_reads 70 = .ok (.ireturn, 1) := dgX8_reads_2.2.2.2.2.2.2.2.1
theorem dX8_reads_71 : decode cX8_reads 71 = .ok (.iinc 3 1, 3) := dgX8_reads_2.2.2.2.2.2.2.2.2.1
theorem dX8_reads_74 : decode cX8_reads 74 = .ok (.goto (-45), 3) := dgX8_reads_2.2.2.2.2.2.2.2.2.2.1
theorem dX8_reads_77 : decode cX8_reads 77 = .ok (.ldc 169, 2) := dgX8_reads_2.2.2.2.2.2.2.2.2.2.2.1
theorem dX8_reads_79 : decode cX8_reads 79 = .ok (.ireturn, 1) := dgX8_reads_2.2.2.2.2.2.2.2.2.2.2.2
abbrev pX8_reads : List Nat := [0, 10, 27, 29, 69, 71, 77]
def bX8_reads_0 (cal : ab_F) : ab_K := o_iload 1 <| o_callS cal 121 1 <| o_if (fun x => decide (¬ x = 0)) 1 <| o_push (.int (-1000000001)) <| o_ret (some .int)
def bX8_reads_1 (cal : ab_F) : ab_K := o_aload 0 <| o_getf 7 5 <| o_iload 1 <| o_aald 3 <| o_astore 2 <| o_aload 2 <| o_callV cal 21 0 1 <| o_if (fun x => decide (x = 0)) 2 <| o_push (.int (-1000000011)) <| o_ret (some .int)
def bX8_reads_2 (cal : ab_F) : ab_K := o_push (.int 0) <| o_istore 3 <| o_goto 3
def bX8_reads_3 (cal : ab_F) : ab_K := o_iload 3 <| o_aload 2 <| o_getf 1 2 <| o_cmp (fun x y => decide (y ≤ x)) 6 <| o_aload 2 <| o_iload 3 <| o_callV cal 25 1 1 <| o_if (fun x => decide (x = 0)) 5 <| o_iload 3 <| o_push (.int 12) <| o_cmp (fun x y => decide (y ≤ x)) 4 <| o_aload 2 <| o_getf 1 0 <| o_iload 3 <| o_iald 0 <| o_aload 0 <| o_getf 7 0 <| o_getf 3 5 <| o_iload 3 <| o_iald 0 <| o_cmp (fun x y => decide (x = y)) 5 <| o_goto 4
def bX8_reads_4 (cal : ab_F) : ab_K := o_iload 3 <| o_ret (some .int)
def bX8_reads_5 (cal : ab_F) : ab_K := o_iinc 3 1 <| o_goto 3
def bX8_reads_6 (cal : ab_F) : ab_K := o_push (.int (-1000000005)) <| o_ret (some .int)
def bX8_reads (cal : ab_F) : List ab_K := [bX8_reads_0 cal, bX8_reads_1 cal, bX8_reads_2 cal, bX8_reads_3 cal, bX8_reads_4 cal, bX8_reads_5 cal, bX8_reads_6 cal]
set_option maxRecDepth 100000 in
theorem sX8_reads_0 {G : ab_G} {xs : List Int32} {d : Nat} {cal : ab_F} (hcs : ab_CS G (ab_Z G xs) ab_Mf cal d) : ab_Sd G (ab_Z G xs) (d + 1) (ab_mY mX8_reads pX8_reads) 0 (bX8_reads_0 cal) :=
  sn_iload_n dX8_reads_0 rfl <| sq_callS mt_121 hcs dX8_reads_1 w_621 w_622 w_55 w_623 hy_121 hm_121 <| sn_if_ne (tg := 10) dX8_reads_4 rfl rfl <| sn_ldc dX8_reads_7 w_323 <| sn_ret dX8_reads_9 ab_ri_int
set_option maxRecDepth 100000 in
theorem sX8_reads_1 {G : ab_G} {xs : List Int32} {d : Nat} {cal : ab_F} (hcs : ab_CS G (ab_Z G xs) ab_Mf cal d) : ab_Sd G (ab_Z G xs) (d + 1) (ab_mY mX8_reads pX8_reads) 10 (bX8_reads_1 cal) :=
  sn_aload_n dX8_reads_10 rfl <| sn_getf dX8_reads_11 rfl hinX8 (by decide) w_290 <| sn_iload_n dX8_reads_14 rfl <| sn_aald dX8_reads_15 rfl <| sn_astore_n dX8_reads_16 rfl (by decide) <| sn_aload_n dX8_reads_17 rfl <| sq_callV mt_21 hcs dX8_reads_18 rfl w_624 w_625 w_626 w_61 w_627 hy_21 hm_21 <| sn_if_eq (tg := 27) dX8_reads_21 rfl rfl <| sn_ldc dX8_reads_24 w_628 <| sn_ret dX8_reads_26 ab_ri_int
set_option maxRecDepth 100000 in
theorem sX8_reads_2 {G : ab_G} {xs : List Int32} {d : Nat} {cal : ab_F} (hcs : ab_CS G (ab_Z G xs) ab_Mf cal d) : ab_Sd G (ab_Z G xs) (d + 1) (ab_mY mX8_reads pX8_reads) 27 (bX8_reads_2 cal) :=
  sn_iconst dX8_reads_27 rfl <| sn_istore_n dX8_reads_28 rfl (by decide) <| sn_next rfl
set_option maxRecDepth 100000 in
theorem sX8_reads_3 {G : ab_G} {xs : List Int32} {d : Nat} {cal : ab_F} (hcs : ab_CS G (ab_Z G xs) ab_Mf cal d) : ab_Sd G (ab_Z G xs) (d + 1) (ab_mY mX8_reads pX8_reads) 29 (bX8_reads_3 cal) :=
  sn_iload_n dX8_reads_29 rfl <| sn_aload_n dX8_reads_30 rfl <| sn_getf dX8_reads_31 rfl hinX2 (by decide) w_247 <| sn_cmp_ge (tg := 77) dX8_reads_34 rfl rfl <| sn_aload_n dX8_reads_37 rfl <| sn_iload_n dX8_reads_38 rfl <| sq_callV mt_25 hcs dX8_reads_39 rfl w_912 w_634 w_635 w_61 w_636 hy_25 hm_25 <| sn_if_eq (tg := 71) dX8_reads_42 rfl rfl <| sn_iload_n dX8_reads_45 rfl <| sn_bipush dX8_reads_46 rfl <| sn_cmp_ge (tg := 69) dX8_reads_48 rfl rfl <| sn_aload_n dX8_reads_51 rfl <| sn_getf dX8_reads_52 rfl hinX2 (by decide) w_243 <| sn_iload_n dX8_reads_55 rfl <| sn_iald dX8_reads_56 rfl <| sn_aload_n dX8_reads_57 rfl <| sn_getf dX8_reads_58 rfl hinX8 (by decide) w_285 <| sn_getf dX8_reads_61 rfl hinX4 (by decide) w_105 <| sn_iload_n dX8_reads_64 rfl <| sn_iald dX8_reads_65 rfl <| sn_cmp_eq (tg := 71) dX8_reads_66 rfl rfl <| sn_next rfl
set_option maxRecDepth 100000 in
theorem sX8_reads_4 {G : ab_G} {xs : List Int32} {d : Nat} {cal : ab_F} (hcs : ab_CS G (ab_Z G xs) ab_Mf cal d) : ab_Sd G (ab_Z G xs) (d + 1) (ab_mY mX8_reads pX8_reads) 69 (bX8_reads_4 cal) :=
  sn_iload_n dX8_reads_69 rfl <| sn_ret dX8_reads_70 ab_ri_int
set_option maxRecDepth 100000 in
theorem sX8_reads_5 {G : ab_G} {xs : List Int32} {d : Nat} {cal : ab_F} (hcs : ab_CS G (ab_Z G xs) ab_Mf cal d) : ab_Sd G (ab_Z G xs) (d + 1) (ab_mY mX8_reads pX8_reads) 71 (bX8_reads_5 cal) :=
  sn_iinc dX8_reads_71 rfl (by decide) <| sn_goto (tg := 29) dX8_reads_74 rfl rfl
set_option maxRecDepth 100000 in
theorem sX8_reads_6 {G : ab_G} {xs : List Int32} {d : Nat} {cal : ab_F} (hcs : ab_CS G (ab_Z G xs) ab_Mf cal d) : ab_Sd G (ab_Z G xs) (d + 1) (ab_mY mX8_reads pX8_reads) 77 (bX8_reads_6 cal) :=
  sn_ldc dX8_reads_77 w_534 <| sn_ret dX8_reads_79 ab_ri_int
theorem sX8_reads {G : ab_G} {xs : List Int32} {d : Nat} {cal : ab_F} (hcs : ab_CS G (ab_Z G xs) ab_Mf cal d) : ab_BS G (ab_Z G xs) (d + 1) (ab_mY mX8_reads pX8_reads) pX8_reads (bX8_reads cal) := ⟨sX8_reads_0 hcs, sX8_reads_1 hcs, sX8_reads_2 hcs, sX8_reads_3 hcs, sX8_reads_4 hcs, sX8_reads_5 hcs, sX8_reads_6 hcs, trivial⟩
theorem dgX8_copy_0 : decode cX8_copy 0 = .ok (.iload_n 1, 1) ∧ decode cX8_copy 1 = .ok (.invokestatic 190, 3) ∧ decode cX8_copy 4 = .ok (.ifCond .eq 10, 3) ∧ decode cX8_copy 7 = .ok (.iload_n 3, 1) ∧ decode cX8_copy 8 = .ok (.invokestatic 190, 3) ∧ decode cX8_copy 11 = .ok (.ifCond .ne 6, 3) ∧ decode cX8_copy 14 = .ok (.ldc 64, 2) ∧ decode cX8_copy 16 = .ok (.ireturn, 1) ∧ decode cX8_copy 17 = .ok (.aload_n 0, 1) ∧ decode cX8_copy 18 = .ok (.getfield 44, 3) ∧ decode cX8_copy 21 = .ok (.iload_n 1, 1) ∧ decode cX8_copy 22 = .ok (.aaload, 1) ∧ decode cX8_copy 23 = .ok (.astore 6, 2) ∧ decode cX8_copy 25 = .ok (.aload_n 0, 1) ∧ decode cX8_copy 26 = .ok (.getfield 44, 3) ∧ decode cX8_copy 29 = .ok (.iload_n 3, 1) := by decide +kernel
theorem dX8_copy_0 : decode cX8_copy 0 = .ok (.iload_n 1, 1) := dgX8_copy_0.1
theorem dX8_copy_1 : decode cX8_copy 1 = .ok (.invokestatic 190, 3) := dgX8_copy_0.2.1
theorem dX8_copy_4 : decode cX8_copy 4 = .ok (.ifCond .eq 10, 3) := dgX8_copy_0.2.2.1
theorem dX8_copy_7 : decode cX8_copy 7 = .ok (.iload_n 3, 1) := dgX8_copy_0.2.2.2.1
theorem dX8_copy_8 : decode cX8_copy 8 = .ok (.invokestatic 190, 3) := dgX8_copy_0.2.2.2.2.1
theorem dX8_copy_11 : decode cX8_copy 11 = .ok (.ifCond .ne 6, 3) := dgX8_copy_0.2.2.2.2.2.1
theorem dX8_copy_14 : decode cX8_copy 14 = .ok (.ldc 64, 2) := dgX8_copy_0.2.2.2.2.2.2.1
theorem dX8_copy_16 : decode cX8_copy 16 = .ok (.ireturn, 1) := dgX8_copy_0.2.2.2.2.2.2.2.1
theorem dX8_copy_17 : decode cX8_copy 17 = .ok (.aload_n 0, 1) := dgX8_copy_0.2.2.2.2.2.2.2.2.1
theorem dX8_copy_18 : decode cX8_copy 18 = .ok (.getfield 44, 3) := dgX8_copy_0.2.2.2.2.2.2.2.2.2.1
theorem dX8_copy_21 : decode cX8_copy 21 = .ok (.iload_n 1, 1) := dgX8_copy_0.2.2.2.2.2.2.2.2.2.2.1
theorem dX8_copy_22 : decode cX8_copy 22 = .ok (.aaload, 1) := dgX8_copy_0.2.2.2.2.2.2.2.2.2.2.2.1
theorem dX8_copy_23 : decode cX8_copy 23 = .ok (.astore 6, 2) := dgX8_copy_0.2.2.2.2.2.2.2.2.2.2.2.2.1
theorem dX8_copy_25 : decode cX8_copy 25 = .ok (.aload_n 0, 1) := dgX8_copy_0.2.2.2.2.2.2.2.2.2.2.2.2.2.1
theorem dX8_copy_26 : decode cX8_copy 26 = .ok (.getfield 44, 3) := dgX8_copy_0.2.2.2.2.2.2.2.2.2.2.2.2.2.2.1
theorem dX8_copy_29 : decode cX8_copy 29 = .ok (.iload_n 3, 1) := dgX8_copy_0.2.2.2.2.2.2.2.2.2.2.2.2.2.2.2
theorem dgX8_copy_1 : decode cX8_copy 30 = .ok (.aaload, 1) ∧ decode cX8_copy 31 = .ok (.astore 7, 2) ∧ decode cX8_copy 33 = .ok (.aload 6, 2) ∧ decode cX8_copy 35 = .ok (.invokevirtual 193, 3) ∧ decode cX8_copy 38 = .ok (.ifCond .ne 11, 3) ∧ decode cX8_copy 41 = .ok (.aload 7, 2) ∧ decode cX8_copy 43 = .ok (.invokevirtual 193, 3) ∧ decode cX8_copy 46 = .ok (.ifCond .eq 6, 3) ∧ decode cX8_copy 49 = .ok (.ldc 197, 2) ∧ decode cX8_copy 51 = .ok (.ireturn, 1) ∧ decode cX8_copy 52 = .ok (.aload 6, 2) ∧ decode cX8_copy 54 = .ok (.getfield 249, 3) ∧ decode cX8_copy 57 = .ok (.aload 7, 2) ∧ decode cX8_copy 59 = .ok (.getfield 249, 3) ∧ decode cX8_copy 62 = .ok (.if_icmp .eq 6, 3) ∧ decode cX8_copy 65 = .ok (.ldc 112, 2) := by decide +kernel
theorem dX8_copy_30 : decode cX8_copy 30 = .ok (.aaload, 1) := dgX8_copy_1.1
theorem dX8_copy_31 : decode cX8_copy 31 = .ok (.astore 7, 2) := dgX8_copy_1.2.1
theorem dX8_copy_33 : decode cX8_copy 33 = .ok (.aload 6, 2) := dgX8_copy_1.2.2.1
theorem dX8_copy_35 : decode cX8_copy 35 = .ok (.invokevirtual 193, 3) := dgX8_copy_1.2.2.2.1
theorem dX8_copy_38 : decode cX8_copy 38 = .ok (.ifCond .ne 11, 3) := dgX8_copy_1.2.2.2.2.1
theorem dX8_copy_41 : decode cX8_copy 41 = .ok (.aload 7, 2) := dgX8_copy_1.2.2.2.2.2.1
theorem dX8_copy_43 : decode cX8_copy 43 = .ok (.invokevirtual 193, 3) := dgX8_copy_1.2.2.2.2.2.2.1
theorem dX8_copy_46 : decode cX8_copy 46 = .ok (.ifCond .eq 6, 3) := dgX8_copy_1.2.2.2.2.2.2.2.1
theorem dX8_copy_49 : decode cX8_copy 49 = .ok (.ldc 197, 2) := dgX8_copy_1.2.2.2.2.2.2.2.2.1
theorem dX8_copy_51 : decode cX8_copy 51 = .ok (.ireturn, 1) := dgX8_copy_1.2.2.2.2.2.2.2.2.2.1
theorem dX8_copy_52 : decode cX8_copy 52 = .ok (.aload 6, 2) := dgX8_copy_1.2.2.2.2.2.2.2.2.2.2.1
theorem dX8_copy_54 : decode cX8_copy 54 = .ok (.getfield 249, 3) := dgX8_copy_1.2.2.2.2.2.2.2.2.2.2.2.1
theorem dX8_copy_57 : decode cX8_copy 57 = .ok (.aload 7, 2) := dgX8_copy_1.2.2.2.2.2.2.2.2.2.2.2.2.1
theorem dX8_copy_59 : decode cX8_copy 59 = .ok (.getfield 249, 3) := dgX8_copy_1.2.2.2.2.2.2.2.2.2.2.2.2.2.1
theorem dX8_copy_62 : decode cX8_copy 62 = .ok (.if_icmp .eq 6, 3) := dgX8_copy_1.2.2.2.2.2.2.2.2.2.2.2.2.2.2.1
theorem dX8_copy_65 : decode cX8_copy 65 = .ok (.ldc 112, 2) := dgX8_copy_1.2.2.2.2.2.2.2.2.2.2.2.2.2.2.2
theorem dgX8_copy_2 : decode cX8_copy 67 = .ok (.ireturn, 1) ∧ decode cX8_copy 68 = .ok (.aload 6, 2) ∧ decode cX8_copy 70 = .ok (.iload_n 2, 1) ∧ decode cX8_copy 71 = .ok (.iload 5, 2) ∧ decode cX8_copy 73 = .ok (.invokevirtual 266, 3) ∧ decode cX8_copy 76 = .ok (.ifCond .eq 15, 3) ∧ decode cX8_copy 79 = .ok (.aload 7, 2) ∧ decode cX8_copy 81 = .ok (.iload 4, 2) ∧ decode cX8_copy 83 = .ok (.iload 5, 2) ∧ decode cX8_copy 85 = .ok (.invokevirtual 266, 3) ∧ decode cX8_copy 88 = .ok (.ifCond .ne 6, 3) ∧ decode cX8_copy 91 = .ok (.ldc 248, 2) ∧ decode cX8_copy 93 = .ok (.ireturn, 1) ∧ decode cX8_copy 94 = .ok (.aload 6, 2) ∧ decode cX8_copy 96 = .ok (.getfield 260, 3) ∧ decode cX8_copy 99 = .ok (.iload_n 2, 1) := by decide +kernel
theorem dX8_copy_67 : decode cX8_copy 67 = .ok (.ireturn, 1) := dgX8_copy_2.1
theorem dX8_copy_68 : decode cX8_copy 68 = .ok (.aload 6, 2) := dgX8_copy_2.2.1
theorem dX8_copy_70 : decode cX8_copy 70 = .ok (.iload_n 2, 1) := dgX8_copy_2.2.2.1
theorem dX8_copy_71 : decode cX8_copy 71 = .ok (.iload 5, 2) := dgX8_copy_2.2.2.2.1
theorem dX8_copy_73 : decode cX8_copy 73 = .ok (.invokevirtual 266, 3) := dgX8_copy_2.2.2.2.2.1
theorem dX8_copy_76 : decode cX8_copy 76 = .ok (.ifCond .eq 15, 3) := dgX8_copy_2.2.2.2.2.2.1
theorem dX8_copy_79 : decode cX8_copy 79 = .ok (.aload 7, 2) := dgX8_copy_2.2.2.2.2.2.2.1
theorem dX8_copy_81 : decode cX8_copy 81 = .ok (.iload 4, 2) := dgX8_copy_2.2.2.2.2.2.2.2.1
theorem dX8_copy_83 : decode cX8_copy 83 = .ok (.iload 5, 2) := dgX8_copy_2.2.2.2.2.2.2.2.2.1
theorem dX8_copy_85 : decode cX8_copy 85 = .ok (.invokevirtual 266, 3) := dgX8_copy_2.2.2.2.2.2.2.2.2.2.1
theorem dX8_copy_88 : decode cX8_copy 88 = .ok (.ifCond .ne 6, 3) := dgX8_copy_2.2.2.2.2.2.2.2.2.2.2.1
theorem dX8_copy_91 : decode cX8_copy 91 = .ok (.ldc 248, 2) := dgX8_copy_2.2.2.2.2.2.2.2.2.2.2.2.1
theorem dX8_copy_93 : decode cX8_copy 93 = .ok (.ireturn, 1) := dgX8_copy_2.2.2.2.2.2.2.2.2.2.2.2.2.1
theorem dX8_copy_94 : decode cX8_copy 94 = .ok (.aload 6, 2) := dgX8_copy_2.2.2.2.2.2.2.2.2.2.2.2.2.2.1
theorem dX8_copy_96 : decode cX8_copy 96 = .ok (.getfield 260, 3) := dgX8_copy_2.2.2.2.2.2.2.2.2.2.2.2.2.2.2.1
theorem dX8_copy_99 : decode cX8_copy 99 = .ok (.iload_n 2, 1) := dgX8_copy_2.2.2.2.2.2.2.2.2.2.2.2.2.2.2.2
theorem dgX8_copy_3 : decode cX8_copy 100 = .ok (.aload 7, 2) ∧ decode cX8_copy 102 = .ok (.getfield 260, 3) ∧ decode cX8_copy 105 = .ok (.iload 4, 2) ∧ decode cX8_copy 107 = .ok (.iload 5, 2) ∧ decode cX8_copy 109 = .ok (.invokestatic 269, 3) ∧ decode cX8_copy 112 = .ok (.iload 5, 2) ∧ decode cX8_copy 114 = .ok (.ireturn, 1) := by decide +kernel
theorem dX8_copy_100 : decode cX8_copy 100 = .ok (.aload 7, 2) := dgX8_copy_3.1
theorem dX8_copy_102 : decode cX8_copy 102 = .ok (.getfield 260, 3) := dgX8_copy_3.2.1
theorem dX8_copy_105 : decode cX8_copy 105 = .ok (.iload 4, 2) := dgX8_copy_3.2.2.1
theorem dX8_copy_107 : decode cX8_copy 107 = .ok (.iload 5, 2) := dgX8_copy_3.2.2.2.1
theorem dX8_copy_109 : decode cX8_copy 109 = .ok (.invokestatic 269, 3) := dgX8_copy_3.2.2.2.2.1
theorem dX8_copy_112 : decode cX8_copy 112 = .ok (.iload 5, 2) := dgX8_copy_3.2.2.2.2.2.1
theorem dX8_copy_114 : decode cX8_copy 114 = .ok (.ireturn, 1) := dgX8_copy_3.2.2.2.2.2.2
abbrev pX8_copy : List Nat := [0, 14, 17, 49, 52, 68, 91, 94]
def bX8_copy_0 (cal : ab_F) : ab_K := o_iload 1 <| o_callS cal 121 1 <| o_if (fun x => decide (x = 0)) 1 <| o_iload 3 <| o_callS cal 121 1 <| o_if (fun x => decide (¬ x = 0)) 2 <| o_goto 1
def bX8_copy_1 (cal : ab_F) : ab_K := o_push (.int (-1000000001)) <| o_ret (some .int)
def bX8_copy_2 (cal : ab_F) : ab_K := o_aload 0 <| o_getf 7 5 <| o_iload 1 <| o_aald 3 <| o_astore 6 <| o_aload 0 <| o_getf 7 5 <| o_iload 3 <| o_aald 3 <| o_astore 7 <| o_aload 6 <| o_callV cal 21 0 1 <| o_if (fun x => decide (¬ x = 0)) 3 <| o_aload 7 <| o_callV cal 21 0 1 <| o_if (fun x => decide (x = 0)) 4 <| o_goto 3
def bX8_copy_3 (cal : ab_F) : ab_K := o_push (.int (-1000000011)) <| o_ret (some .int)
def bX8_copy_4 (cal : ab_F) : ab_K := o_aload 6 <| o_getf 1 1 <| o_aload 7 <| o_getf 1 1 <| o_cmp (fun x y => decide (x = y)) 5 <| o_push (.int (-1000000012)) <| o_ret (some .int)
def bX8_copy_5 (cal : ab_F) : ab_K := o_aload 6 <| o_iload 2 <| o_iload 5 <| o_callV cal 26 2 1 <| o_if (fun x => decide (x = 0)) 6 <| o_aload 7 <| o_iload 4 <| o_iload 5 <| o_callV cal 26 2 1 <| o_if (fun x => decide (¬ x = 0)) 7 <| o_goto 6
def bX8_copy_6 (cal : ab_F) : ab_K := o_push (.int (-1000000013)) <| o_ret (some .int)
def bX8_copy_7 (cal : ab_F) : ab_K := o_aload 6 <| o_getf 1 0 <| o_iload 2 <| o_aload 7 <| o_getf 1 0 <| o_iload 4 <| o_iload 5 <| o_acopy <| o_iload 5 <| o_ret (some .int)
def bX8_copy (cal : ab_F) : List ab_K := [bX8_copy_0 cal, bX8_copy_1 cal, bX8_copy_2 cal, bX8_copy_3 cal, bX8_copy_4 cal, bX8_copy_5 cal, bX8_copy_6 cal, bX8_copy_7 cal]
set_option maxRecDepth 100000 in
theorem sX8_copy_0 {G : ab_G} {xs : List Int32} {d : Nat} {cal : ab_F} (hcs : ab_CS G (ab_Z G xs) ab_Mf cal d) : ab_Sd G (ab_Z G xs) (d + 1) (ab_mY mX8_copy pX8_copy) 0 (bX8_copy_0 cal) :=
  sn_iload_n dX8_copy_0 rfl <| sq_callS mt_121 hcs dX8_copy_1 w_621 w_622 w_55 w_623 hy_121 hm_121 <| sn_if_eq (tg := 14) dX8_copy_4 rfl rfl <| sn_iload_n dX8_copy_7 rfl <| sq_callS mt_121 hcs dX8_copy_8 w_621 w_622 w_55 w_623 hy_121 hm_121 <| sn_if_ne (tg := 17) dX8_copy_11 rfl rfl <| sn_next rfl
set_option maxRecDepth 100000 in
theorem sX8_copy_1 {G : ab_G} {xs : List Int32} {d : Nat} {cal : ab_F} (hcs : ab_CS G (ab_Z G xs) ab_Mf cal d) : ab_Sd G (ab_Z G xs) (d + 1) (ab_mY mX8_copy pX8_copy) 14 (bX8_copy_1 cal) :=
  sn_ldc dX8_copy_14 w_323 <| sn_ret dX8_copy_16 ab_ri_int
set_option maxRecDepth 100000 in
theorem sX8_copy_2 {G : ab_G} {xs : List Int32} {d : Nat} {cal : ab_F} (hcs : ab_CS G (ab_Z G xs) ab_Mf cal d) : ab_Sd G (ab_Z G xs) (d + 1) (ab_mY mX8_copy pX8_copy) 17 (bX8_copy_2 cal) :=
  sn_aload_n dX8_copy_17 rfl <| sn_getf dX8_copy_18 rfl hinX8 (by decide) w_290 <| sn_iload_n dX8_copy_21 rfl <| sn_aald dX8_copy_22 rfl <| sn_astore dX8_copy_23 (by decide) <| sn_aload_n dX8_copy_25 rfl <| sn_getf dX8_copy_26 rfl hinX8 (by decide) w_290 <| sn_iload_n dX8_copy_29 rfl <| sn_aald dX8_copy_30 rfl <| sn_astore dX8_copy_31 (by decide) <| sn_aload dX8_copy_33 <| sq_callV mt_21 hcs dX8_copy_35 rfl w_624 w_625 w_626 w_61 w_627 hy_21 hm_21 <| sn_if_ne (tg := 49) dX8_copy_38 rfl rfl <| sn_aload dX8_copy_41 <| sq_callV mt_21 hcs dX8_copy_43 rfl w_624 w_625 w_626 w_61 w_627 hy_21 hm_21 <| sn_if_eq (tg := 52) dX8_copy_46 rfl rfl <| sn_next rfl
set_option maxRecDepth 100000 in
theorem sX8_copy_3 {G : ab_G} {xs : List Int32} {d : Nat} {cal : ab_F} (hcs : ab_CS G (ab_Z G xs) ab_Mf cal d) : ab_Sd G (ab_Z G xs) (d + 1) (ab_mY mX8_copy pX8_copy) 49 (bX8_copy_3 cal) :=
  sn_ldc dX8_copy_49 w_628 <| sn_ret dX8_copy_51 ab_ri_int
set_option maxRecDepth 100000 in
theorem sX8_copy_4 {G : ab_G} {xs : List Int32} {d : Nat} {cal : ab_F} (hcs : ab_CS G (ab_Z G xs) ab_Mf cal d) : ab_Sd G (ab_Z G xs) (d + 1) (ab_mY mX8_copy pX8_copy) 52 (bX8_copy_4 cal) :=
  sn_aload dX8_copy_52 <| sn_getf dX8_copy_54 rfl hinX2 (by decide) w_245 <| sn_aload dX8_copy_57 <| sn_getf dX8_copy_59 rfl hinX2 (by decide) w_245 <| sn_cmp_eq (tg := 68) dX8_copy_62 rfl rfl <| sn_ldc dX8_copy_65 w_417 <| sn_ret dX8_copy_67 ab_ri_int
set_option maxRecDepth 100000 in
theorem sX8_copy_5 {G : ab_G} {xs : List Int32} {d : Nat} {cal : ab_F} (hcs : ab_CS G (ab_Z G xs) ab_Mf cal d) : ab_Sd G (ab_Z G xs) (d + 1) (ab_mY mX8_copy pX8_copy) 68 (bX8_copy_5 cal) :=
  sn_aload dX8_copy_68 <| sn_iload_n dX8_copy_70 rfl <| sn_iload dX8_copy_71 <| sq_callV mt_26 hcs dX8_copy_73 rfl w_922 w_923 w_924 w_61 w_925 hy_26 hm_26 <| sn_if_eq (tg := 91) dX8_copy_76 rfl rfl <| sn_aload dX8_copy_79 <| sn_iload dX8_copy_81 <| sn_iload dX8_copy_83 <| sq_callV mt_26 hcs dX8_copy_85 rfl w_922 w_923 w_924 w_61 w_925 hy_26 hm_26 <| sn_if_ne (tg := 94) dX8_copy_88 rfl rfl <| sn_next rfl
set_option maxRecDepth 100000 in
theorem sX8_copy_6 {G : ab_G} {xs : List Int32} {d : Nat} {cal : ab_F} (hcs : ab_CS G (ab_Z G xs) ab_Mf cal d) : ab_Sd G (ab_Z G xs) (d + 1) (ab_mY mX8_copy pX8_copy) 91 (bX8_copy_6 cal) :=
  sn_ldc dX8_copy_91 w_901 <| sn_ret dX8_copy_93 ab_ri_int
set_option maxRecDepth 100000 in
theorem sX8_copy_7 {G : ab_G} {xs : List Int32} {d : Nat} {cal : ab_F} (hcs : ab_CS G (ab_Z G xs) ab_Mf cal d) : ab_Sd G (ab_Z G xs) (d + 1) (ab_mY mX8_copy pX8_copy) 94 (bX8_copy_7 cal) :=
  sn_aload dX8_copy_94 <| sn_getf dX8_copy_96 rfl hinX2 (by decide) w_243 <| sn_iload_n dX8_copy_99 rfl <| sn_aload dX8_copy_100 <| sn_getf dX8_copy_102 rfl hinX2 (by decide) w_243 <| sn_iload dX8_copy_105 <| sn_iload dX8_copy_107 <| sn_acopy (Nat.le_add_left 1 _) dX8_copy_109 w_926 w_595 w_594 w_68 <| sn_iload dX8_copy_112 <| sn_ret dX8_copy_114 ab_ri_int
theorem sX8_copy {G : ab_G} {xs : List Int32} {d : Nat} {cal : ab_F} (hcs : ab_CS G (ab_Z G xs) ab_Mf cal d) : ab_BS G (ab_Z G xs) (d + 1) (ab_mY mX8_copy pX8_copy) pX8_copy (bX8_copy cal) := ⟨sX8_copy_0 hcs, sX8_copy_1 hcs, sX8_copy_2 hcs, sX8_copy_3 hcs, sX8_copy_4 hcs, sX8_copy_5 hcs, sX8_copy_6 hcs, sX8_copy_7 hcs, trivial⟩
theorem dgX8_lay_0 : decode cX8_lay 0 = .ok (.iload_n 1, 1) ∧ decode cX8_lay 1 = .ok (.invokestatic 275, 3) ∧ decode cX8_lay 4 = .ok (.ifCond .eq 12, 3) ∧ decode cX8_lay 7 = .ok (.iload_n 2, 1) ∧ decode cX8_lay 8 = .ok (.iconst 0, 1) ∧ decode cX8_lay 9 = .ok (.iconst 3, 1) ∧ decode cX8_lay 10 = .ok (.invokestatic 60, 3) ∧ decode cX8_lay 13 = .ok (.ifCond .ne 6, 3) ∧ decode cX8_lay 16 = .ok (.ldc 64, 2) ∧ decode cX8_lay 18 = .ok (.ireturn, 1) ∧ decode cX8_lay 19 = .ok (.iload_n 2, 1) ∧ decode cX8_lay 20 = .ok (.iconst 1, 1) ∧ decode cX8_lay 21 = .ok (.if_icmp .ne 11, 3) ∧ decode cX8_lay 24 = .ok (.aload_n 0, 1) ∧ decode cX8_lay 25 = .ok (.iload_n 3, 1) ∧ decode cX8_lay 26 = .ok (.invokevirtual 74, 3) := by decide +kernel
theorem dX8_lay_0 : decode cX8_lay 0 = .ok (.iload_n 1, 1) := dgX8_lay_0.1
theorem dX8_lay_1 : decode cX8_lay 1 = .ok (.invokestatic 275, 3) := dgX8_lay_0.2.1
theorem dX8_lay_4 : decode cX8_lay 4 = .ok (.ifCond .eq 12, 3) := dgX8_lay_0.2.2.1
theorem dX8_lay_7 : decode cX8_lay 7 = .ok (.iload_n 2, 1) := dgX8_lay_0.2.2.2.1
theorem dX8_lay_8 : decode cX8_lay 8 = .ok (.iconst 0, 1) := dgX8_lay_0.2.2.2.2.1
theorem dX8_lay_9 : decode cX8_lay 9 = .ok (.iconst 3, 1) := dgX8_lay_0.2.2.2.2.2.1
theorem dX8_lay_10 : decode cX8_lay 10 = .ok (.invokestatic 60, 3) := dgX8_lay_0.2.2.2.2.2.2.1
theorem dX8_lay_13 : decode cX8_lay 13 = .ok (.ifCond .ne 6, 3) := dgX8_lay_0.2.2.2.2.2.2.2.1
theorem dX8_lay_16 : decode cX8_lay 16 = .ok (.ldc 64, 2) := dgX8_lay_0.2.2.2.2.2.2.2.2.1
theorem dX8_lay_18 : decode cX8_lay 18 = .ok (.ireturn, 1) := dgX8_lay_0.2.2.2.2.2.2.2.2.2.1
theorem dX8_lay_19 : decode cX8_lay 19 = .ok (.iload_n 2, 1) := dgX8_lay_0.2.2.2.2.2.2.2.2.2.2.1
theorem dX8_lay_20 : decode cX8_lay 20 = .ok (.iconst 1, 1) := dgX8_lay_0.2.2.2.2.2.2.2.2.2.2.2.1
theorem dX8_lay_21 : decode cX8_lay 21 = .ok (.if_icmp .ne 11, 3) := dgX8_lay_0.2.2.2.2.2.2.2.2.2.2.2.2.1
theorem dX8_lay_24 : decode cX8_lay 24 = .ok (.aload_n 0, 1) := dgX8_lay_0.2.2.2.2.2.2.2.2.2.2.2.2.2.1
theorem dX8_lay_25 : decode cX8_lay 25 = .ok (.iload_n 3, 1) := dgX8_lay_0.2.2.2.2.2.2.2.2.2.2.2.2.2.2.1
theorem dX8_lay_26 : decode cX8_lay 26 = .ok (.invokevirtual 74, 3) := dgX8_lay_0.2.2.2.2.2.2.2.2.2.2.2.2.2.2.2
theorem dgX8_lay_1 : decode cX8_lay 29 = .ok (.ifCond .eq 15, 3) ∧ decode cX8_lay 32 = .ok (.iload_n 2, 1) ∧ decode cX8_lay 33 = .ok (.iconst 2, 1) ∧ decode cX8_lay 34 = .ok (.if_icmp .ne 13, 3) ∧ decode cX8_lay 37 = .ok (.iload_n 3, 1) ∧ decode cX8_lay 38 = .ok (.invokestatic 190, 3) ∧ decode cX8_lay 41 = .ok (.ifCond .ne 6, 3) ∧ decode cX8_lay 44 = .ok (.ldc 64, 2) ∧ decode cX8_lay 46 = .ok (.ireturn, 1) ∧ decode cX8_lay 47 = .ok (.iload_n 2, 1) ∧ decode cX8_lay 48 = .ok (.iconst 2, 1) ∧ decode cX8_lay 49 = .ok (.if_icmp .ne 18, 3) ∧ decode cX8_lay 52 = .ok (.aload_n 0, 1) ∧ decode cX8_lay 53 = .ok (.getfield 44, 3) ∧ decode cX8_lay 56 = .ok (.iload_n 3, 1) ∧ decode cX8_lay 57 = .ok (.aaload, 1) := by decide +kernel
theorem dX8_lay_29 : decode cX8_lay 29 = .ok (.ifCond .eq 15, 3) := dgX8_lay_1.1
theorem dX8_lay_32 : decode cX8_lay 32 = .ok (.iload_n 2, 1) := dgX8_lay_1.2.1
theorem dX8_lay_33 : decode cX8_lay 33 = .ok (.iconst 2, 1) := dgX8_lay_1.2.2.1
theorem dX8_lay_34 : decode cX8_lay 34 = .ok (.if_icmp .ne 13, 3) := dgX8_lay_1.2.2.2.1
theorem dX8_lay_37 : decode cX8_lay 37 = .ok (.iload_n 3, 1) := dgX8_lay_1.2.2.2.2.1
theorem dX8_lay_38 : decode cX8_lay 38 = .ok (.invokestatic 190, 3) := dgX8_lay_1.2.2.2.2.2.1
theorem dX8_lay_41 : decode cX8_lay 41 = .ok (.ifCond .ne 6, 3) := dgX8_lay_1.2.2.2.2.2.2.1
theorem dX8_lay_44 : decode cX8_lay 44 = .ok (.ldc 64, 2) := dgX8_lay_1.2.2.2.2.2.2.2.1
theorem dX8_lay_46 : decode cX8_lay 46 = .ok (.ireturn, 1) := dgX8_lay_1.2.2.2.2.2.2.2.2.1
theorem dX8_lay_47 : decode cX8_lay 47 = .ok (.iload_n 2, 1) := dgX8_lay_1.2.2.2.2.2.2.2.2.2.1
theorem dX8_lay_48 : decode cX8_lay 48 = .ok (.iconst 2, 1) := dgX8_lay_1.2.2.2.2.2.2.2.2.2.2.1
theorem dX8_lay_49 : decode cX8_lay 49 = .ok (.if_icmp .ne 18, 3) := dgX8_lay_1.2.2.2.2.2.2.2.2.2.2.2.1
theorem dX8_lay_52 : decode cX8_lay 52 = .ok (.aload_n 0, 1) := dgX8_lay_1.2.2.2.2.2.2.2.2.2.2.2.2.1
theorem dX8_lay_53 : decode cX8_lay 53 = .ok (.getfield 44, 3) := dgX8_lay_1.2.2.2.2.2.2.2.2.2.2.2.2.2.1
theorem dX8_lay_56 : decode cX8_lay 56 = .ok (.iload_n 3, 1) := dgX8_lay_1.2.2.2.2.2.2.2.2.2.2.2.2.2.2.1
theorem dX8_lay_57 : decode cX8_lay 57 = .ok (.aaload, 1) := dgX8_lay_1.2.2.2.2.2.2.2.2.2.2.2.2.2.2.2
theorem dgX8_lay_2 : decode cX8_lay 58 = .ok (.invokevirtual 193, 3) ∧ decode cX8_lay 61 = .ok (.ifCond .eq 6, 3) ∧ decode cX8_lay 64 = .ok (.ldc 197, 2) ∧ decode cX8_lay 66 = .ok (.ireturn, 1) ∧ decode cX8_lay 67 = .ok (.aload_n 0, 1) ∧ decode cX8_lay 68 = .ok (.getfield 50, 3) ∧ decode cX8_lay 71 = .ok (.iload_n 1, 1) ∧ decode cX8_lay 72 = .ok (.aaload, 1) ∧ decode cX8_lay 73 = .ok (.astore 4, 2) ∧ decode cX8_lay 75 = .ok (.aload 4, 2) ∧ decode cX8_lay 77 = .ok (.getfield 278, 3) ∧ decode cX8_lay 80 = .ok (.istore 5, 2) ∧ decode cX8_lay 82 = .ok (.aload 4, 2) ∧ decode cX8_lay 84 = .ok (.iload_n 2, 1) ∧ decode cX8_lay 85 = .ok (.putfield 278, 3) ∧ decode cX8_lay 88 = .ok (.iload_n 2, 1) := by decide +kernel
theorem dX8_lay_58 : decode cX8_lay 58 = .ok (.invokevirtual 193, 3) := dgX8_lay_2.1
theorem dX8_lay_61 : decode cX8_lay 61 = .ok (.ifCond .eq 6, 3) := dgX8_lay_2.2.1
theorem dX8_lay_64 : decode cX8_lay 64 = .ok (.ldc 197, 2) := dgX8_lay_2.2.2.1
theorem dX8_lay_66 : decode cX8_lay 66 = .ok (.ireturn, 1) := dgX8_lay_2.2.2.2.1
theorem dX8_lay_67 : decode cX8_lay 67 = .ok (.aload_n 0, 1) := dgX8_lay_2.2.2.2.2.1
theorem dX8_lay_68 : decode cX8_lay 68 = .ok (.getfield 50, 3) := dgX8_lay_2.2.2.2.2.2.1
theorem dX8_lay_71 : decode cX8_lay 71 = .ok (.iload_n 1, 1) := dgX8_lay_2.2.2.2.2.2.2.1
theorem dX8_lay_72 : decode cX8_lay 72 = .ok (.aaload, 1) := dgX8_lay_2.2.2.2.2.2.2.2.1
theorem dX8_lay_73 : decode cX8_lay 73 = .ok (.astore 4, 2) := dgX8_lay_2.2.2.2.2.2.2.2.2.1
theorem dX8_lay_75 : decode cX8_lay 75 = .ok (.aload 4, 2) := dgX8_lay_2.2.2.2.2.2.2.2.2.2.1
theorem dX8_lay_77 : decode cX8_lay 77 = .ok (.getfield 278, 3) := dgX8_lay_2.2.2.2.2.2.2.2.2.2.2.1
theorem dX8_lay_80 : decode cX8_lay 80 = .ok (.istore 5, 2) := dgX8_lay_2.2.2.2.2.2.2.2.2.2.2.2.1
theorem dX8_lay_82 : decode cX8_lay 82 = .ok (.aload 4, 2) := dgX8_lay_2.2.2.2.2.2.2.2.2.2.2.2.2.1
theorem dX8_lay_84 : decode cX8_lay 84 = .ok (.iload_n 2, 1) := dgX8_lay_2.2.2.2.2.2.2.2.2.2.2.2.2.2.1
theorem dX8_lay_85 : decode cX8_lay 85 = .ok (.putfield 278, 3) := dgX8_lay_2.2.2.2.2.2.2.2.2.2.2.2.2.2.2.1
theorem dX8_lay_88 : decode cX8_lay 88 = .ok (.iload_n 2, 1) := dgX8_lay_2.2.2.2.2.2.2.2.2.2.2.2.2.2.2.2
theorem dgX8_lay_3 : decode cX8_lay 89 = .ok (.iconst 1, 1) ∧ decode cX8_lay 90 = .ok (.if_icmp .ne 38, 3) ∧ decode cX8_lay 93 = .ok (.aload 4, 2) ∧ decode cX8_lay 95 = .ok (.aload_n 0, 1) ∧ decode cX8_lay 96 = .ok (.getfield 10, 3) ∧ decode cX8_lay 99 = .ok (.getfield 78, 3) ∧ decode cX8_lay 102 = .ok (.iload_n 3, 1) ∧ decode cX8_lay 103 = .ok (.iaload, 1) ∧ decode cX8_lay 104 = .ok (.aload_n 0, 1) ∧ decode cX8_lay 105 = .ok (.getfield 10, 3) ∧ decode cX8_lay 108 = .ok (.getfield 81, 3) ∧ decode cX8_lay 111 = .ok (.iload_n 3, 1) ∧ decode cX8_lay 112 = .ok (.iaload, 1) ∧ decode cX8_lay 113 = .ok (.aload_n 0, 1) ∧ decode cX8_lay 114 = .ok (.getfield 10, 3) ∧ decode cX8_lay 117 = .ok (.getfield 84, 3) := by decide +kernel
theorem dX8_lay_89 : decode cX8_lay 89 = .ok (.iconst 1, 1) := dgX8_lay_3.1
theorem dX8_lay_90 : decode cX8_lay 90 = .ok (.if_icmp .ne 38, 3) := dgX8_lay_3.2.1
theorem dX8_lay_93 : decode cX8_lay 93 = .ok (.aload 4, 2) := dgX8_lay_3.2.2.1
theorem dX8_lay_95 : decode cX8_lay 95 = .ok (.aload_n 0, 1) := dgX8_lay_3.2.2.2.1
theorem dX8_lay_96 : decode cX8_lay 96 = .ok (.getfield 10, 3) := dgX8_lay_3.2.2.2.2.1
theorem dX8_lay_99 : decode cX8_lay 99 = .ok (.getfield 78, 3) := dgX8_lay_3.2.2.2.2.2.1
theorem dX8_lay_102 : decode cX8_lay 102 = .ok (.iload_n 3, 1) := dgX8_lay_3.2.2.2.2.2.2.1
theorem dX8_lay_103 : decode cX8_lay 103 = .ok (.iaload, 1) := dgX8_lay_3.2.2.2.2.2.2.2.1
theorem dX8_lay_104 : decode cX8_lay 104 = .ok (.aload_n 0, 1) := dgX8_lay_3.2.2.2.2.2.2.2.2.1
theorem dX8_lay_105 : decode cX8_lay 105 = .ok (.getfield 10, 3) := dgX8_lay_3.2.2.2.2.2.2.2.2.2.1
theorem dX8_lay_108 : decode cX8_lay 108 = .ok (.getfield 81, 3) := dgX8_lay_3.2.2.2.2.2.2.2.2.2.2.1
theorem dX8_lay_111 : decode cX8_lay 111 = .ok (.iload_n 3, 1) := dgX8_lay_3.2.2.2.2.2.2.2.2.2.2.2.1
theorem dX8_lay_112 : decode cX8_lay 112 = .ok (.iaload, 1) := dgX8_lay_3.2.2.2.2.2.2.2.2.2.2.2.2.1
theorem dX8_lay_113 : decode cX8_lay 113 = .ok (.aload_n 0, 1) := dgX8_lay_3.2.2.2.2.2.2.2.2.2.2.2.2.2.1
theorem dX8_lay_114 : decode cX8_lay 114 = .ok (.getfield 10, 3) := dgX8_lay_3.2.2.2.2.2.2.2.2.2.2.2.2.2.2.1
theorem dX8_lay_117 : decode cX8_lay 117 = .ok (.getfield 84, 3) := dgX8_lay_3.2.2.2.2.2.2.2.2.2.2.2.2.2.2.2
theorem dgX8_lay_4 : decode cX8_lay 120 = .ok (.iload_n 3, 1) ∧ decode cX8_lay 121 = .ok (.iaload, 1) ∧ decode cX8_lay 122 = .ok (.invokevirtual 281, 3) ∧ decode cX8_lay 125 = .ok (.goto 36, 3) ∧ decode cX8_lay 128 = .ok (.iload_n 2, 1) ∧ decode cX8_lay 129 = .ok (.iconst 2, 1) ∧ decode cX8_lay 130 = .ok (.if_icmp .ne 20, 3) ∧ decode cX8_lay 133 = .ok (.aload 4, 2) ∧ decode cX8_lay 135 = .ok (.getfield 285, 3) ∧ decode cX8_lay 138 = .ok (.aload_n 0, 1) ∧ decode cX8_lay 139 = .ok (.getfield 44, 3) ∧ decode cX8_lay 142 = .ok (.iload_n 3, 1) ∧ decode cX8_lay 143 = .ok (.aaload, 1) ∧ decode cX8_lay 144 = .ok (.invokevirtual 289, 3) ∧ decode cX8_lay 147 = .ok (.goto 14, 3) ∧ decode cX8_lay 150 = .ok (.iload_n 2, 1) := by decide +kernel
theorem dX8_lay_120 : decode cX8_lay 120 = .ok (.iload_n 3, 1) := dgX8_lay_4.1
theorem dX8_lay_121 : decode cX8_lay 121 = .ok (.iaload, 1) := dgX8_lay_4.2.1
theorem dX8_lay_122 : decode cX8_lay 122 = .ok (.invokevirtual 281, 3) := dgX8_lay_4.2.2.1
theorem dX8_lay_125 : decode cX8_lay 125 = .ok (.goto 36, 3) := dgX8_lay_4.2.2.2.1
theorem dX8_lay_128 : decode cX8_lay 128 = .ok (.iload_n 2, 1) := dgX8_lay_4.2.2.2.2.1
theorem dX8_lay_129 : decode cX8_lay 129 = .ok (.iconst 2, 1) := dgX8_lay_4.2.2.2.2.2.1
theorem dX8_lay_130 : decode cX8_lay 130 = .ok (.if_icmp .ne 20, 3) := dgX8_lay_4.2.2.2.2.2.2.1
theorem dX8_lay_133 : decode cX8_lay 133 = .ok (.aload 4, 2) := dgX8_lay_4.2.2.2.2.2.2.2.1
theorem dX8_lay_135 : decode cX8_lay 135 = .ok (.getfield 285, 3) := dgX8_lay_4.2.2.2.2.2.2.2.2.1
theorem dX8_lay_138 : decode cX8_lay 138 = .ok (.aload_n 0, 1) := dgX8_lay_4.2.2.2.2.2.2.2.2.2.1
theorem dX8_lay_139 : decode cX8_lay 139 = .ok (.getfield 44, 3) := dgX8_lay_4.2.2.2.2.2.2.2.2.2.2.1
theorem dX8_lay_142 : decode cX8_lay 142 = .ok (.iload_n 3, 1) := dgX8_lay_4.2.2.2.2.2.2.2.2.2.2.2.1
theorem dX8_lay_143 : decode cX8_lay 143 = .ok (.aaload, 1) := dgX8_lay_4.2.2.2.2.2.2.2.2.2.2.2.2.1
theorem dX8_lay_144 : decode cX8_lay 144 = .ok (.invokevirtual 289, 3) := dgX8_lay_4.2.2.2.2.2.2.2.2.2.2.2.2.2.1
theorem dX8_lay_147 : decode cX8_lay 147 = .ok (.goto 14, 3) := dgX8_lay_4.2.2.2.2.2.2.2.2.2.2.2.2.2.2.1
theorem dX8_lay_150 : decode cX8_lay 150 = .ok (.iload_n 2, 1) := dgX8_lay_4.2.2.2.2.2.2.2.2.2.2.2.2.2.2.2
theorem dgX8_lay_5 : decode cX8_lay 151 = .ok (.iconst 3, 1) ∧ decode cX8_lay 152 = .ok (.if_icmp .ne 9, 3) ∧ decode cX8_lay 155 = .ok (.aload 4, 2) ∧ decode cX8_lay 157 = .ok (.iload_n 3, 1) ∧ decode cX8_lay 158 = .ok (.putfield 293, 3) ∧ decode cX8_lay 161 = .ok (.iload 5, 2) ∧ decode cX8_lay 163 = .ok (.ireturn, 1) := by decide +kernel
theorem dX8_lay_151 : decode cX8_lay 151 = .ok (.iconst 3, 1) := dgX8_lay_5.1
theorem dX8_lay_152 : decode cX8_lay 152 = .ok (.if_icmp .ne 9, 3) := dgX8_lay_5.2.1
theorem dX8_lay_155 : decode cX8_lay 155 = .ok (.aload 4, 2) := dgX8_lay_5.2.2.1
theorem dX8_lay_157 : decode cX8_lay 157 = .ok (.iload_n 3, 1) := dgX8_lay_5.2.2.2.1
theorem dX8_lay_158 : decode cX8_lay 158 = .ok (.putfield 293, 3) := dgX8_lay_5.2.2.2.2.1
theorem dX8_lay_161 : decode cX8_lay 161 = .ok (.iload 5, 2) := dgX8_lay_5.2.2.2.2.2.1
theorem dX8_lay_163 : decode cX8_lay 163 = .ok (.ireturn, 1) := dgX8_lay_5.2.2.2.2.2.2
abbrev pX8_lay : List Nat := [0, 16, 19, 32, 44, 47, 67, 128, 150, 161]
def bX8_lay_0 (cal : ab_F) : ab_K := o_iload 1 <| o_callS cal 122 1 <| o_if (fun x => decide (x = 0)) 1 <| o_iload 2 <| o_push (.int 0) <| o_push (.int 3) <| o_callS cal 123 3 <| o_if (fun x => decide (¬ x = 0)) 2 <| o_goto 1
def bX8_lay_1 (cal : ab_F) : ab_K := o_push (.int (-1000000001)) <| o_ret (some .int)
def bX8_lay_2 (cal : ab_F) : ab_K := o_iload 2 <| o_push (.int 1) <| o_cmp (fun x y => decide (¬ x = y)) 3 <| o_aload 0 <| o_iload 3 <| o_callV cal 119 1 7 <| o_if (fun x => decide (x = 0)) 4 <| o_goto 3
def bX8_lay_3 (cal : ab_F) : ab_K := o_iload 2 <| o_push (.int 2) <| o_cmp (fun x y => decide (¬ x = y)) 5 <| o_iload 3 <| o_callS cal 121 1 <| o_if (fun x => decide (¬ x = 0)) 5 <| o_goto 4
def bX8_lay_4 (cal : ab_F) : ab_K := o_push (.int (-1000000001)) <| o_ret (some .int)
def bX8_lay_5 (cal : ab_F) : ab_K := o_iload 2 <| o_push (.int 2) <| o_cmp (fun x y => decide (¬ x = y)) 6 <| o_aload 0 <| o_getf 7 5 <| o_iload 3 <| o_aald 3 <| o_callV cal 21 0 1 <| o_if (fun x => decide (x = 0)) 6 <| o_push (.int (-1000000011)) <| o_ret (some .int)
def bX8_lay_6 (cal : ab_F) : ab_K := o_aload 0 <| o_getf 7 6 <| o_iload 1 <| o_aald 4 <| o_astore 4 <| o_aload 4 <| o_getf 2 1 <| o_istore 5 <| o_aload 4 <| o_iload 2 <| o_putI 2 1 <| o_iload 2 <| o_push (.int 1) <| o_cmp (fun x y => decide (¬ x = y)) 7 <| o_aload 4 <| o_aload 0 <| o_getf 7 0 <| o_getf 3 0 <| o_iload 3 <| o_iald 0 <| o_aload 0 <| o_getf 7 0 <| o_getf 3 1 <| o_iload 3 <| o_iald 0 <| o_aload 0 <| o_getf 7 0 <| o_getf 3 2 <| o_iload 3 <| o_iald 0 <| o_callV cal 28 3 2 <| o_goto 9
def bX8_lay_7 (cal : ab_F) : ab_K := o_iload 2 <| o_push (.int 2) <| o_cmp (fun x y => decide (¬ x = y)) 8 <| o_aload 4 <| o_getf 2 0 <| o_aload 0 <| o_getf 7 5 <| o_iload 3 <| o_aald 3 <| o_callV cal 23 1 1 <| o_goto 9
def bX8_lay_8 (cal : ab_F) : ab_K := o_iload 2 <| o_push (.int 3) <| o_cmp (fun x y => decide (¬ x = y)) 9 <| o_aload 4 <| o_iload 3 <| o_putI 2 5 <| o_goto 9
def bX8_lay_9 (cal : ab_F) : ab_K := o_iload 5 <| o_ret (some .int)
def bX8_lay (cal : ab_F) : List ab_K := [bX8_lay_0 cal, bX8_lay_1 cal, bX8_lay_2 cal, bX8_lay_3 cal, bX8_lay_4 cal, bX8_lay_5 cal, bX8_lay_6 cal, bX8_lay_7 cal, bX8_lay_8 cal, bX8_lay_9 cal]
set_option maxRecDepth 100000 in
theorem sX8_lay_0 {G : ab_G} {xs : List Int32} {d : Nat} {cal : ab_F} (hcs : ab_CS G (ab_Z G xs) ab_Mf cal d) : ab_Sd G (ab_Z G xs) (d + 1) (ab_mY mX8_lay pX8_lay) 0 (bX8_lay_0 cal) :=
  sn_iload_n dX8_lay_0 rfl <| sq_callS mt_122 hcs dX8_lay_1 w_931 w_932 w_55 w_933 hy_122 hm_122 <| sn_if_eq (tg := 16) dX8_lay_4 rfl rfl <| sn_iload_n dX8_lay_7 rfl <| sn_iconst dX8_lay_8 rfl <| sn_iconst dX8_lay_9 rfl <| sq_callS mt_123 hcs dX8_lay_10 w_320 w_321 w_55 w_322 hy_123 hm_123 <| sn_if_ne (tg := 19) dX8_lay_13 rfl rfl <| sn_next rfl
set_option maxRecDepth 100000 in
theorem sX8_lay_1 {G : ab_G} {xs : List Int32} {d : Nat} {cal : ab_F} (hcs : ab_CS G (ab_Z G xs) ab_Mf cal d) : ab_Sd G (ab_Z G xs) (d + 1) (ab_mY mX8_lay pX8_lay) 16 (bX8_lay_1 cal) :=
  sn_ldc dX8_lay_16 w_323 <| sn_ret dX8_lay_18 ab_ri_int
set_option maxRecDepth 100000 in
theorem sX8_lay_2 {G : ab_G} {xs : List Int32} {d : Nat} {cal : ab_F} (hcs : ab_CS G (ab_Z G xs) ab_Mf cal d) : ab_Sd G (ab_Z G xs) (d + 1) (ab_mY mX8_lay pX8_lay) 19 (bX8_lay_2 cal) :=
  sn_iload_n dX8_lay_19 rfl <| sn_iconst dX8_lay_20 rfl <| sn_cmp_ne (tg := 32) dX8_lay_21 rfl rfl <| sn_aload_n dX8_lay_24 rfl <| sn_iload_n dX8_lay_25 rfl <| sq_callV mt_119 hcs dX8_lay_26 rfl w_386 w_388 w_0 w_55 w_389 hy_119 hm_119 <| sn_if_eq (tg := 44) dX8_lay_29 rfl rfl <| sn_next rfl
set_option maxRecDepth 100000 in
theorem sX8_lay_3 {G : ab_G} {xs : List Int32} {d : Nat} {cal : ab_F} (hcs : ab_CS G (ab_Z G xs) ab_Mf cal d) : ab_Sd G (ab_Z G xs) (d + 1) (ab_mY mX8_lay pX8_lay) 32 (bX8_lay_3 cal) :=
  sn_iload_n dX8_lay_32 rfl <| sn_iconst dX8_lay_33 rfl <| sn_cmp_ne (tg := 47) dX8_lay_34 rfl rfl <| sn_iload_n dX8_lay_37 rfl <| sq_callS mt_121 hcs dX8_lay_38 w_621 w_622 w_55 w_623 hy_121 hm_121 <| sn_if_ne (tg := 47) dX8_lay_41 rfl rfl <| sn_next rfl
set_option maxRecDepth 100000 in
theorem sX8_lay_4 {G : ab_G} {xs : List Int32} {d : Nat} {cal : ab_F} (hcs : ab_CS G (ab_Z G xs) ab_Mf cal d) : ab_Sd G (ab_Z G xs) (d + 1) (ab_mY mX8_lay pX8_lay) 44 (bX8_lay_4 cal) :=
  sn_ldc dX8_lay_44 w_323 <| sn_ret dX8_lay_46 ab_ri_int
set_option maxRecDepth 100000 in
theorem sX8_lay_5 {G : ab_G} {xs : List Int32} {d : Nat} {cal : ab_F} (hcs : ab_CS G (ab_Z G xs) ab_Mf cal d) : ab_Sd G (ab_Z G xs) (d + 1) (ab_mY mX8_lay pX8_lay) 47 (bX8_lay_5 cal) :=
  sn_iload_n dX8_lay_47 rfl <| sn_iconst dX8_lay_48 rfl <| sn_cmp_ne (tg := 67) dX8_lay_49 rfl rfl <| sn_aload_n dX8_lay_52 rfl <| sn_getf dX8_lay_53 rfl hinX8 (by decide) w_290 <| sn_iload_n dX8_lay_56 rfl <| sn_aald dX8_lay_57 rfl <| sq_callV mt_21 hcs dX8_lay_58 rfl w_624 w_625 w_626 w_61 w_627 hy_21 hm_21 <| sn_if_eq (tg := 67) dX8_lay_61 rfl rfl <| sn_ldc dX8_lay_64 w_628 <| sn_ret dX8_lay_66 ab_ri_int
set_option maxRecDepth 100000 in
theorem sX8_lay_6 {G : ab_G} {xs : List Int32} {d : Nat} {cal : ab_F} (hcs : ab_CS G (ab_Z G xs) ab_Mf cal d) : ab_Sd G (ab_Z G xs) (d + 1) (ab_mY mX8_lay pX8_lay) 67 (bX8_lay_6 cal) :=
  sn_aload_n dX8_lay_67 rfl <| sn_getf dX8_lay_68 rfl hinX8 (by decide) w_291 <| sn_iload_n dX8_lay_71 rfl <| sn_aald dX8_lay_72 rfl <| sn_astore dX8_lay_73 (by decide) <| sn_aload dX8_lay_75 <| sn_getf dX8_lay_77 rfl hinX3 (by decide) w_264 <| sn_istore dX8_lay_80 (by decide) <| sn_aload dX8_lay_82 <| sn_iload_n dX8_lay_84 rfl <| sn_putI tyX3 tyX3_ok nmX3 dX8_lay_85 rfl hinX3 (by decide) w_264 (Or.inl rfl) (tyX3_ok 1 (by decide)) <| sn_iload_n dX8_lay_88 rfl <| sn_iconst dX8_lay_89 rfl <| sn_cmp_ne (tg := 128) dX8_lay_90 rfl rfl <| sn_aload dX8_lay_93 <| sn_aload_n dX8_lay_95 rfl <| sn_getf dX8_lay_96 rfl hinX8 (by decide) w_285 <| sn_getf dX8_lay_99 rfl hinX4 (by decide) w_94 <| sn_iload_n dX8_lay_102 rfl <| sn_iald dX8_lay_103 rfl <| sn_aload_n dX8_lay_104 rfl <| sn_getf dX8_lay_105 rfl hinX8 (by decide) w_285 <| sn_getf dX8_lay_108 rfl hinX4 (by decide) w_96 <| sn_iload_n dX8_lay_111 rfl <| sn_iald dX8_lay_112 rfl <| sn_aload_n dX8_lay_113 rfl <| sn_getf dX8_lay_114 rfl hinX8 (by decide) w_285 <| sn_getf dX8_lay_117 rfl hinX4 (by decide) w_98 <| sn_iload_n dX8_lay_120 rfl <| sn_iald dX8_lay_121 rfl <| sq_callV mt_28 hcs dX8_lay_122 rfl w_934 w_935 w_936 w_62 w_937 hy_28 hm_28 <| sn_goto (tg := 161) dX8_lay_125 rfl rfl
set_option maxRecDepth 100000 in
theorem sX8_lay_7 {G : ab_G} {xs : List Int32} {d : Nat} {cal : ab_F} (hcs : ab_CS G (ab_Z G xs) ab_Mf cal d) : ab_Sd G (ab_Z G xs) (d + 1) (ab_mY mX8_lay pX8_lay) 128 (bX8_lay_7 cal) :=
  sn_iload_n dX8_lay_128 rfl <| sn_iconst dX8_lay_129 rfl <| sn_cmp_ne (tg := 150) dX8_lay_130 rfl rfl <| sn_aload dX8_lay_133 <| sn_getf dX8_lay_135 rfl hinX3 (by decide) w_263 <| sn_aload_n dX8_lay_138 rfl <| sn_getf dX8_lay_139 rfl hinX8 (by decide) w_290 <| sn_iload_n dX8_lay_142 rfl <| sn_aald dX8_lay_143 rfl <| sq_callV mt_23 hcs dX8_lay_144 rfl w_938 w_939 w_940 w_61 w_941 hy_23 hm_23 <| sn_goto (tg := 161) dX8_lay_147 rfl rfl
set_option maxRecDepth 100000 in
theorem sX8_lay_8 {G : ab_G} {xs : List Int32} {d : Nat} {cal : ab_F} (hcs : ab_CS G (ab_Z G xs) ab_Mf cal d) : ab_Sd G (ab_Z G xs) (d + 1) (ab_mY mX8_lay pX8_lay) 150 (bX8_lay_8 cal) :=
  sn_iload_n dX8_lay_150 rfl <| sn_iconst dX8_lay_151 rfl <| sn_cmp_ne (tg := 161) dX8_lay_152 rfl rfl <| sn_aload dX8_lay_155 <| sn_iload_n dX8_lay_157 rfl <| sn_putI tyX3 tyX3_ok nmX3 dX8_lay_158 rfl hinX3 (by decide) w_271 (Or.inl rfl) (tyX3_ok 5 (by decide)) <| sn_next rfl
set_option maxRecDepth 100000 in
theorem sX8_lay_9 {G : ab_G} {xs : List Int32} {d : Nat} {cal : ab_F} (hcs : ab_CS G (ab_Z G xs) ab_Mf cal d) : ab_Sd G (ab_Z G xs) (d + 1) (ab_mY mX8_lay pX8_lay) 161 (bX8_lay_9 cal) :=
  sn_iload dX8_lay_161 <| sn_ret dX8_lay_163 ab_ri_int
theorem sX8_lay {G : ab_G} {xs : List Int32} {d : Nat} {cal : ab_F} (hcs : ab_CS G (ab_Z G xs) ab_Mf cal d) : ab_BS G (ab_Z G xs) (d + 1) (ab_mY mX8_lay pX8_lay) pX8_lay (bX8_lay cal) := ⟨sX8_lay_0 hcs, sX8_lay_1 hcs, sX8_lay_2 hcs, sX8_lay_3 hcs, sX8_lay_4 hcs, sX8_lay_5 hcs, sX8_lay_6 hcs, sX8_lay_7 hcs, sX8_lay_8 hcs, sX8_lay_9 hcs, trivial⟩
theorem dgX8_ask_0 : decode cX8_ask 0 = .ok (.iload_n 1, 1) ∧ decode cX8_ask 1 = .ok (.invokestatic 275, 3) ∧ decode cX8_ask 4 = .ok (.ifCond .eq 12, 3) ∧ decode cX8_ask 7 = .ok (.iload_n 2, 1) ∧ decode cX8_ask 8 = .ok (.iconst 0, 1) ∧ decode cX8_ask 9 = .ok (.iconst 5, 1) ∧ decode cX8_ask 10 = .ok (.invokestatic 60, 3) ∧ decode cX8_ask 13 = .ok (.ifCond .ne 6, 3) ∧ decode cX8_ask 16 = .ok (.ldc 64, 2) ∧ decode cX8_ask 18 = .ok (.ireturn, 1) ∧ decode cX8_ask 19 = .ok (.aload_n 0, 1) ∧ decode cX8_ask 20 = .ok (.iload_n 1, 1) ∧ decode cX8_ask 21 = .ok (.iconst 1, 1) ∧ decode cX8_ask 22 = .ok (.invokevirtual 296, 3) ∧ decode cX8_ask 25 = .ok (.istore_n 3, 1) ∧ decode cX8_ask 26 = .ok (.iload_n 3, 1) := by decide +kernel
theorem dX8_ask_0 : decode cX8_ask 0 = .ok (.iload_n 1, 1) := dgX8_ask_0.1
theorem dX8_ask_1 : decode cX8_ask 1 = .ok (.invokestatic 275, 3) := dgX8_ask_0.2.1
theorem dX8_ask_4 : decode cX8_ask 4 = .ok (.ifCond .eq 12, 3) := dgX8_ask_0.2.2.1
theorem dX8_ask_7 : decode cX8_ask 7 = .ok (.iload_n 2, 1) := dgX8_ask_0.2.2.2.1
theorem dX8_ask_8 : decode cX8_ask 8 = .ok (.iconst 0, 1) := dgX8_ask_0.2.2.2.2.1
theorem dX8_ask_9 : decode cX8_ask 9 = .ok (.iconst 5, 1) := dgX8_ask_0.2.2.2.2.2.1
theorem dX8_ask_10 : decode cX8_ask 10 = .ok (.invokestatic 60, 3) := dgX8_ask_0.2.2.2.2.2.2.1
theorem dX8_ask_13 : decode cX8_ask 13 = .ok (.ifCond .ne 6, 3) := dgX8_ask_0.2.2.2.2.2.2.2.1
theorem dX8_ask_16 : decode cX8_ask 16 = .ok (.ldc 64, 2) := dgX8_ask_0.2.2.2.2.2.2.2.2.1
theorem dX8_ask_18 : decode cX8_ask 18 = .ok (.ireturn, 1) := dgX8_ask_0.2.2.2.2.2.2.2.2.2.1
theorem dX8_ask_19 : decode cX8_ask 19 = .ok (.aload_n 0, 1) := dgX8_ask_0.2.2.2.2.2.2.2.2.2.2.1
theorem dX8_ask_20 : decode cX8_ask 20 = .ok (.iload_n 1, 1) := dgX8_ask_0.2.2.2.2.2.2.2.2.2.2.2.1
theorem dX8_ask_21 : decode cX8_ask 21 = .ok (.iconst 1, 1) := dgX8_ask_0.2.2.2.2.2.2.2.2.2.2.2.2.1
theorem dX8_ask_22 : decode cX8_ask 22 = .ok (.invokevirtual 296, 3) := dgX8_ask_0.2.2.2.2.2.2.2.2.2.2.2.2.2.1
theorem dX8_ask_25 : decode cX8_ask 25 = .ok (.istore_n 3, 1) := dgX8_ask_0.2.2.2.2.2.2.2.2.2.2.2.2.2.2.1
theorem dX8_ask_26 : decode cX8_ask 26 = .ok (.iload_n 3, 1) := dgX8_ask_0.2.2.2.2.2.2.2.2.2.2.2.2.2.2.2
theorem dgX8_ask_1 : decode cX8_ask 27 = .ok (.ifCond .eq 5, 3) ∧ decode cX8_ask 30 = .ok (.iload_n 3, 1) ∧ decode cX8_ask 31 = .ok (.ireturn, 1) ∧ decode cX8_ask 32 = .ok (.aload_n 0, 1) ∧ decode cX8_ask 33 = .ok (.getfield 50, 3) ∧ decode cX8_ask 36 = .ok (.iload_n 1, 1) ∧ decode cX8_ask 37 = .ok (.aaload, 1) ∧ decode cX8_ask 38 = .ok (.astore 4, 2) ∧ decode cX8_ask 40 = .ok (.aload 4, 2) ∧ decode cX8_ask 42 = .ok (.getfield 299, 3) ∧ decode cX8_ask 45 = .ok (.iload_n 2, 1) ∧ decode cX8_ask 46 = .ok (.invokestatic 108, 3) ∧ decode cX8_ask 49 = .ok (.ifCond .eq 24, 3) ∧ decode cX8_ask 52 = .ok (.aload 4, 2) ∧ decode cX8_ask 54 = .ok (.getfield 299, 3) ∧ decode cX8_ask 57 = .ok (.aload 4, 2) := by decide +kernel
theorem dX8_ask_27 : decode cX8_ask 27 = .ok (.ifCond .eq 5, 3) := dgX8_ask_1.1
theorem dX8_ask_30 : decode cX8_ask 30 = .ok (.iload_n 3, 1) := dgX8_ask_1.2.1
theorem dX8_ask_31 : decode cX8_ask 31 = .ok (.ireturn, 1) := dgX8_ask_1.2.2.1
theorem dX8_ask_32 : decode cX8_ask 32 = .ok (.aload_n 0, 1) := dgX8_ask_1.2.2.2.1
theorem dX8_ask_33 : decode cX8_ask 33 = .ok (.getfield 50, 3) := dgX8_ask_1.2.2.2.2.1
theorem dX8_ask_36 : decode cX8_ask 36 = .ok (.iload_n 1, 1) := dgX8_ask_1.2.2.2.2.2.1
theorem dX8_ask_37 : decode cX8_ask 37 = .ok (.aaload, 1) := dgX8_ask_1.2.2.2.2.2.2.1
theorem dX8_ask_38 : decode cX8_ask 38 = .ok (.astore 4, 2) := dgX8_ask_1.2.2.2.2.2.2.2.1
theorem dX8_ask_40 : decode cX8_ask 40 = .ok (.aload 4, 2) := dgX8_ask_1.2.2.2.2.2.2.2.2.1
theorem dX8_ask_42 : decode cX8_ask 42 = .ok (.getfield 299, 3) := dgX8_ask_1.2.2.2.2.2.2.2.2.2.1
theorem dX8_ask_45 : decode cX8_ask 45 = .ok (.iload_n 2, 1) := dgX8_ask_1.2.2.2.2.2.2.2.2.2.2.1
theorem dX8_ask_46 : decode cX8_ask 46 = .ok (.invokestatic 108, 3) := dgX8_ask_1.2.2.2.2.2.2.2.2.2.2.2.1
theorem dX8_ask_49 : decode cX8_ask 49 = .ok (.ifCond .eq 24, 3) := dgX8_ask_1.2.2.2.2.2.2.2.2.2.2.2.2.1
theorem dX8_ask_52 : decode cX8_ask 52 = .ok (.aload 4, 2) := dgX8_ask_1.2.2.2.2.2.2.2.2.2.2.2.2.2.1
theorem dX8_ask_54 : decode cX8_ask 54 = .ok (.getfield 299, 3) := dgX8_ask_1.2.2.2.2.2.2.2.2.2.2.2.2.2.2.1
theorem dX8_ask_57 : decode cX8_ask 57 = .ok (.aload 4, 2) := dgX8_ask_1.2.2.2.2.2.2.2.2.2.2.2.2.2.2.2
theorem dgX8_ask_2 : decode cX8_ask 59 = .ok (.getfield 302, 3) ∧ decode cX8_ask 62 = .ok (.aload 4, 2) ∧ decode cX8_ask 64 = .ok (.getfield 305, 3) ∧ decode cX8_ask 67 = .ok (.invokestatic 97, 3) ∧ decode cX8_ask 70 = .ok (.goto 5, 3) ∧ decode cX8_ask 73 = .ok (.ldc 112, 2) ∧ decode cX8_ask 75 = .ok (.ireturn, 1) := by decide +kernel
theorem dX8_ask_59 : decode cX8_ask 59 = .ok (.getfield 302, 3) := dgX8_ask_2.1
theorem dX8_ask_62 : decode cX8_ask 62 = .ok (.aload 4, 2) := dgX8_ask_2.2.1
theorem dX8_ask_64 : decode cX8_ask 64 = .ok (.getfield 305, 3) := dgX8_ask_2.2.2.1
theorem dX8_ask_67 : decode cX8_ask 67 = .ok (.invokestatic 97, 3) := dgX8_ask_2.2.2.2.1
theorem dX8_ask_70 : decode cX8_ask 70 = .ok (.goto 5, 3) := dgX8_ask_2.2.2.2.2.1
theorem dX8_ask_73 : decode cX8_ask 73 = .ok (.ldc 112, 2) := dgX8_ask_2.2.2.2.2.2.1
theorem dX8_ask_75 : decode cX8_ask 75 = .ok (.ireturn, 1) := dgX8_ask_2.2.2.2.2.2.2
abbrev pX8_ask : List Nat := [0, 16, 19, 32, 73, 75]
def bX8_ask_0 (cal : ab_F) : ab_K := o_iload 1 <| o_callS cal 122 1 <| o_if (fun x => decide (x = 0)) 1 <| o_iload 2 <| o_push (.int 0) <| o_push (.int 5) <| o_callS cal 123 3 <| o_if (fun x => decide (¬ x = 0)) 2 <| o_goto 1
def bX8_ask_1 (cal : ab_F) : ab_K := o_push (.int (-1000000001)) <| o_ret (some .int)
def bX8_ask_2 (cal : ab_F) : ab_K := o_aload 0 <| o_iload 1 <| o_push (.int 1) <| o_callV cal 126 2 7 <| o_istore 3 <| o_iload 3 <| o_if (fun x => decide (x = 0)) 3 <| o_iload 3 <| o_ret (some .int)
def bX8_ask_3 (cal : ab_F) : ab_K := o_aload 0 <| o_getf 7 6 <| o_iload 1 <| o_aald 4 <| o_astore 4 <| o_aload 4 <| o_getf 2 2 <| o_iload 2 <| o_callS cal 0 2 <| o_if (fun x => decide (x = 0)) 4 <| o_aload 4 <| o_getf 2 2 <| o_aload 4 <| o_getf 2 3 <| o_aload 4 <| o_getf 2 4 <| o_callS cal 3 3 <| o_goto 5
def bX8_ask_4 (cal : ab_F) : ab_K := o_push (.int (-1000000012)) <| o_goto 5
def bX8_ask_5 (cal : ab_F) : ab_K := o_ret (some .int)
def bX8_ask (cal : ab_F) : List ab_K := [bX8_ask_0 cal, bX8_ask_1 cal, bX8_ask_2 cal, bX8_ask_3 cal, bX8_ask_4 cal, bX8_ask_5 cal]
set_option maxRecDepth 100000 in
theorem sX8_ask_0 {G : ab_G} {xs : List Int32} {d : Nat} {cal : ab_F} (hcs : ab_CS G (ab_Z G xs) ab_Mf cal d) : ab_Sd G (ab_Z G xs) (d + 1) (ab_mY mX8_ask pX8_ask) 0 (bX8_ask_0 cal) :=
  sn_iload_n dX8_ask_0 rfl <| sq_callS mt_122 hcs dX8_ask_1 w_931 w_932 w_55 w_933 hy_122 hm_122 <| sn_if_eq (tg := 16) dX8_ask_4 rfl rfl <| sn_iload_n dX8_ask_7 rfl <| sn_iconst dX8_ask_8 rfl <| sn_iconst dX8_ask_9 rfl <| sq_callS mt_123 hcs dX8_ask_10 w_320 w_321 w_55 w_322 hy_123 hm_123 <| sn_if_ne (tg := 19) dX8_ask_13 rfl rfl <| sn_next rfl
set_option maxRecDepth 100000 in
theorem sX8_ask_1 {G : ab_G} {xs : List Int32} {d : Nat} {cal : ab_F} (hcs : ab_CS G (ab_Z G xs) ab_Mf cal d) : ab_Sd G (ab_Z G xs) (d + 1) (ab_mY mX8_ask pX8_ask) 16 (bX8_ask_1 cal) :=
  sn_ldc dX8_ask_16 w_323 <| sn_ret dX8_ask_18 ab_ri_int
set_option maxRecDepth 100000 in
theorem sX8_ask_2 {G : ab_G} {xs : List Int32} {d : Nat} {cal : ab_F} (hcs : ab_CS G (ab_Z G xs) ab_Mf cal d) : ab_Sd G (ab_Z G xs) (d + 1) (ab_mY mX8_ask pX8_ask) 19 (bX8_ask_2 cal) :=
  sn_aload_n dX8_ask_19 rfl <| sn_iload_n dX8_ask_20 rfl <| sn_iconst dX8_ask_21 rfl <| sq_callV mt_126 hcs dX8_ask_22 rfl w_947 w_949 w_15 w_55 w_950 hy_126 hm_126 <| sn_istore_n dX8_ask_25 rfl (by decide) <| sn_iload_n dX8_ask_26 rfl <| sn_if_eq (tg := 32) dX8_ask_27 rfl rfl <| sn_iload_n dX8_ask_30 rfl <| sn_ret dX8_ask_31 ab_ri_int
set_option maxRecDepth 100000 in
theorem sX8_ask_3 {G : ab_G} {xs : List Int32} {d : Nat} {cal : ab_F} (hcs : ab_CS G (ab_Z G xs) ab_Mf cal d) : ab_Sd G (ab_Z G xs) (d + 1) (ab_mY mX8_ask pX8_ask) 32 (bX8_ask_3 cal) :=
  sn_aload_n dX8_ask_32 rfl <| sn_getf dX8_ask_33 rfl hinX8 (by decide) w_291 <| sn_iload_n dX8_ask_36 rfl <| sn_aald dX8_ask_37 rfl <| sn_astore dX8_ask_38 (by decide) <| sn_aload dX8_ask_40 <| sn_getf dX8_ask_42 rfl hinX3 (by decide) w_266 <| sn_iload_n dX8_ask_45 rfl <| sq_callS mt_0 hcs dX8_ask_46 w_412 w_413 w_64 w_414 hy_0 hm_0 <| sn_if_eq (tg := 73) dX8_ask_49 rfl rfl <| sn_aload dX8_ask_52 <| sn_getf dX8_ask_54 rfl hinX3 (by decide) w_266 <| sn_aload dX8_ask_57 <| sn_getf dX8_ask_59 rfl hinX3 (by decide) w_268 <| sn_aload dX8_ask_62 <| sn_getf dX8_ask_64 rfl hinX3 (by decide) w_270 <| sq_callS mt_3 hcs dX8_ask_67 w_391 w_392 w_64 w_393 hy_3 hm_3 <| sn_goto (tg := 75) dX8_ask_70 rfl rfl
set_option maxRecDepth 100000 in
theorem sX8_ask_4 {G : ab_G} {xs : List Int32} {d : Nat} {cal : ab_F} (hcs : ab_CS G (ab_Z G xs) ab_Mf cal d) : ab_Sd G (ab_Z G xs) (d + 1) (ab_mY mX8_ask pX8_ask) 73 (bX8_ask_4 cal) :=
  sn_ldc dX8_ask_73 w_417 <| sn_next rfl
set_option maxRecDepth 100000 in
theorem sX8_ask_5 {G : ab_G} {xs : List Int32} {d : Nat} {cal : ab_F} (hcs : ab_CS G (ab_Z G xs) ab_Mf cal d) : ab_Sd G (ab_Z G xs) (d + 1) (ab_mY mX8_ask pX8_ask) 75 (bX8_ask_5 cal) :=
  sn_ret dX8_ask_75 ab_ri_int
theorem sX8_ask {G : ab_G} {xs : List Int32} {d : Nat} {cal : ab_F} (hcs : ab_CS G (ab_Z G xs) ab_Mf cal d) : ab_BS G (ab_Z G xs) (d + 1) (ab_mY mX8_ask pX8_ask) pX8_ask (bX8_ask cal) := ⟨sX8_ask_0 hcs, sX8_ask_1 hcs, sX8_ask_2 hcs, sX8_ask_3 hcs, sX8_ask_4 hcs, sX8_ask_5 hcs, trivial⟩
theorem dgX8_item_0 : decode cX8_item 0 = .ok (.iload_n 1, 1) ∧ decode cX8_item 1 = .ok (.invokestatic 275, 3) ∧ decode cX8_item 4 = .ok (.ifCond .ne 6, 3) ∧ decode cX8_item 7 = .ok (.ldc 64, 2) ∧ decode cX8_item 9 = .ok (.ireturn, 1) ∧ decode cX8_item 10 = .ok (.aload_n 0, 1) ∧ decode cX8_item 11 = .ok (.iload_n 1, 1) ∧ decode cX8_item 12 = .ok (.iconst 2, 1) ∧ decode cX8_item 13 = .ok (.invokevirtual 296, 3) ∧ decode cX8_item 16 = .ok (.istore_n 3, 1) ∧ decode cX8_item 17 = .ok (.iload_n 3, 1) ∧ decode cX8_item 18 = .ok (.ifCond .eq 5, 3) ∧ decode cX8_item 21 = .ok (.iload_n 3, 1) ∧ decode cX8_item 22 = .ok (.ireturn, 1) ∧ decode cX8_item 23 = .ok (.aload_n 0, 1) ∧ decode cX8_item 24 = .ok (.getfield 50, 3) := by decide +kernel
theorem dX8_item_0 : decode cX8_item 0 = .ok (.iload_n 1, 1) := dgX8_item_0.1
theorem dX8_item_1 : decode cX8_item 1 = .ok (.invokestatic 275, 3) := dgX8_item_0.2.1
theorem dX8_item_4 : decode cX8_item 4 = .ok (.ifCond .ne 6, 3) := dgX8_item_0.2.2.1
theorem dX8_item_7 : decode cX8_item 7 = .ok (.ldc 64, 2) := dgX8_item_0.2.2.2.1
theorem dX8_item_9 : decode cX8_item 9 = .ok (.ireturn, 1) := dgX8_item_0.2.2.2.2.1
theorem dX8_item_10 : decode cX8_item 10 = .ok (.aload_n 0, 1) := dgX8_item_0.2.2.2.2.2.1
theorem dX8_item_11 : decode cX8_item 11 = .ok (.iload_n 1, 1) := dgX8_item_0.2.2.2.2.2.2.1
theorem dX8_item_12 : decode cX8_item 12 = .ok (.iconst 2, 1) := dgX8_item_0.2.2.2.2.2.2.2.1
theorem dX8_item_13 : decode cX8_item 13 = .ok (.invokevirtual 296, 3) := dgX8_item_0.2.2.2.2.2.2.2.2.1
theorem dX8_item_16 : decode cX8_item 16 = .ok (.istore_n 3, 1) := dgX8_item_0.2.2.2.2.2.2.2.2.2.1
theorem dX8_item_17 : decode cX8_item 17 = .ok (.iload_n 3, 1) := dgX8_item_0.2.2.2.2.2.2.2.2.2.2.1
theorem dX8_item_18 : decode cX8_item 18 = .ok (.ifCond .eq 5, 3) := dgX8_item_0.2.2.2.2.2.2.2.2.2.2.2.1
theorem dX8_item_21 : decode cX8_item 21 = .ok (.iload_n 3, 1) := dgX8_item_0.2.2.2.2.2.2.2.2.2.2.2.2.1
theorem dX8_item_22 : decode cX8_item 22 = .ok (.ireturn, 1) := dgX8_item_0.2.2.2.2.2.2.2.2.2.2.2.2.2.1
theorem dX8_item_23 : decode cX8_item 23 = .ok (.aload_n 0, 1) := dgX8_item_0.2.2.2.2.2.2.2.2.2.2.2.2.2.2.1
theorem dX8_item_24 : decode cX8_item 24 = .ok (.getfield 50, 3) := dgX8_item_0.2.2.2.2.2.2.2.2.2.2.2.2.2.2.2
theorem dgX8_item_1 : decode cX8_item 27 = .ok (.iload_n 1, 1) ∧ decode cX8_item 28 = .ok (.aaload, 1) ∧ decode cX8_item 29 = .ok (.getfield 285, 3) ∧ decode cX8_item 32 = .ok (.astore 4, 2) ∧ decode cX8_item 34 = .ok (.iload_n 2, 1) ∧ decode cX8_item 35 = .ok (.iconst 0, 1) ∧ decode cX8_item 36 = .ok (.aload 4, 2) ∧ decode cX8_item 38 = .ok (.getfield 247, 3) ∧ decode cX8_item 41 = .ok (.iconst 1, 1) ∧ decode cX8_item 42 = .ok (.isub, 1) ∧ decode cX8_item 43 = .ok (.invokestatic 60, 3) ∧ decode cX8_item 46 = .ok (.ifCond .ne 6, 3) ∧ decode cX8_item 49 = .ok (.ldc 248, 2) ∧ decode cX8_item 51 = .ok (.ireturn, 1) ∧ decode cX8_item 52 = .ok (.aload 4, 2) ∧ decode cX8_item 54 = .ok (.iload_n 2, 1) := by decide +kernel
theorem dX8_item_27 : decode cX8_item 27 = .ok (.iload_n 1, 1) := dgX8_item_1.1
theorem dX8_item_28 : decode cX8_item 28 = .ok (.aaload, 1) := dgX8_item_1.2.1
theorem dX8_item_29 : decode cX8_item 29 = .ok (.getfield 285, 3) := dgX8_item_1.2.2.1
theorem dX8_item_32 : decode cX8_item 32 = .ok (.astore 4, 2) := dgX8_item_1.2.2.2.1
theorem dX8_item_34 : decode cX8_item 34 = .ok (.iload_n 2, 1) := dgX8_item_1.2.2.2.2.1
theorem dX8_item_35 : decode cX8_item 35 = .ok (.iconst 0, 1) := dgX8_item_1.2.2.2.2.2.1
theorem dX8_item_36 : decode cX8_item 36 = .ok (.aload 4, 2) := dgX8_item_1.2.2.2.2.2.2.1
theorem dX8_item_38 : decode cX8_item 38 = .ok (.getfield 247, 3) := dgX8_item_1.2.2.2.2.2.2.2.1
theorem dX8_item_41 : decode cX8_item 41 = .ok (.iconst 1, 1) := dgX8_item_1.2.2.2.2.2.2.2.2.1
theorem dX8_item_42 : decode cX8_item 42 = .ok (.isub, 1) := dgX8_item_1.2.2.2.2.2.2.2.2.2.1
theorem dX8_item_43 : decode cX8_item 43 = .ok (.invokestatic 60, 3) := dgX8_item_1.2.2.2.2.2.2.2.2.2.2.1
theorem dX8_item_46 : decode cX8_item 46 = .ok (.ifCond .ne 6, 3) := dgX8_item_1.2.2.2.2.2.2.2.2.2.2.2.1
theorem dX8_item_49 : decode cX8_item 49 = .ok (.ldc 248, 2) := dgX8_item_1.2.2.2.2.2.2.2.2.2.2.2.2.1
theorem dX8_item_51 : decode cX8_item 51 = .ok (.ireturn, 1) := dgX8_item_1.2.2.2.2.2.2.2.2.2.2.2.2.2.1
theorem dX8_item_52 : decode cX8_item 52 = .ok (.aload 4, 2) := dgX8_item_1.2.2.2.2.2.2.2.2.2.2.2.2.2.2.1
theorem dX8_item_54 : decode cX8_item 54 = .ok (.iload_n 2, 1) := dgX8_item_1.2.2.2.2.2.2.2.2.2.2.2.2.2.2.2
theorem dgX8_item_2 : decode cX8_item 55 = .ok (.invokevirtual 257, 3) ∧ decode cX8_item 58 = .ok (.ifCond .eq 13, 3) ∧ decode cX8_item 61 = .ok (.aload 4, 2) ∧ decode cX8_item 63 = .ok (.getfield 260, 3) ∧ decode cX8_item 66 = .ok (.iload_n 2, 1) ∧ decode cX8_item 67 = .ok (.iaload, 1) ∧ decode cX8_item 68 = .ok (.goto 5, 3) ∧ decode cX8_item 71 = .ok (.ldc 112, 2) ∧ decode cX8_item 73 = .ok (.ireturn, 1) := by decide +kernel
theorem dX8_item_55 : decode cX8_item 55 = .ok (.invokevirtual 257, 3) := dgX8_item_2.1
theorem dX8_item_58 : decode cX8_item 58 = .ok (.ifCond .eq 13, 3) := dgX8_item_2.2.1
theorem dX8_item_61 : decode cX8_item 61 = .ok (.aload 4, 2) := dgX8_item_2.2.2.1
theorem dX8_item_63 : decode cX8_item 63 = .ok (.getfield 260, 3) := dgX8_item_2.2.2.2.1
theorem dX8_item_66 : decode cX8_item 66 = .ok (.iload_n 2, 1) := dgX8_item_2.2.2.2.2.1
theorem dX8_item_67 : decode cX8_item 67 = .ok (.iaload, 1) := dgX8_item_2.2.2.2.2.2.1
theorem dX8_item_68 : decode cX8_item 68 = .ok (.goto 5, 3) := dgX8_item_2.2.2.2.2.2.2.1
theorem dX8_item_71 : decode cX8_item 71 = .ok (.ldc 112, 2) := dgX8_item_2.2.2.2.2.2.2.2.1
theorem dX8_item_73 : decode cX8_item 73 = .ok (.ireturn, 1) := dgX8_item_2.2.2.2.2.2.2.2.2
abbrev pX8_item : List Nat := [0, 10, 23, 52, 71, 73]
def bX8_item_0 (cal : ab_F) : ab_K := o_iload 1 <| o_callS cal 122 1 <| o_if (fun x => decide (¬ x = 0)) 1 <| o_push (.int (-1000000001)) <| o_ret (some .int)
def bX8_item_1 (cal : ab_F) : ab_K := o_aload 0 <| o_iload 1 <| o_push (.int 2) <| o_callV cal 126 2 7 <| o_istore 3 <| o_iload 3 <| o_if (fun x => decide (x = 0)) 2 <| o_iload 3 <| o_ret (some .int)
def bX8_item_2 (cal : ab_F) : ab_K := o_aload 0 <| o_getf 7 6 <| o_iload 1 <| o_aald 4 <| o_getf 2 0 <| o_astore 4 <| o_iload 2 <| o_push (.int 0) <| o_aload 4 <| o_getf 1 2 <| o_push (.int 1) <| o_bin (fun x y => x - y) <| o_callS cal 123 3 <| o_if (fun x => decide (¬ x = 0)) 3 <| o_push (.int (-1000000013)) <| o_ret (some .int)
def bX8_item_3 (cal : ab_F) : ab_K := o_aload 4 <| o_iload 2 <| o_callV cal 25 1 1 <| o_if (fun x => decide (x = 0)) 4 <| o_aload 4 <| o_getf 1 0 <| o_iload 2 <| o_iald 0 <| o_goto 5
def bX8_item_4 (cal : ab_F) : ab_K := o_push (.int (-1000000012)) <| o_goto 5
def bX8_item_5 (cal : ab_F) : ab_K := o_ret (some .int)
def bX8_item (cal : ab_F) : List ab_K := [bX8_item_0 cal, bX8_item_1 cal, bX8_item_2 cal, bX8_item_3 cal, bX8_item_4 cal, bX8_item_5 cal]
set_option maxRecDepth 100000 in
theorem sX8_item_0 {G : ab_G} {xs : List Int32} {d : Nat} {cal : ab_F} (hcs : ab_CS G (ab_Z G xs) ab_Mf cal d) : ab_Sd G (ab_Z G xs) (d + 1) (ab_mY mX8_item pX8_item) 0 (bX8_item_0 cal) :=
  sn_iload_n dX8_item_0 rfl <| sq_callS mt_122 hcs dX8_item_1 w_931 w_932 w_55 w_933 hy_122 hm_122 <| sn_if_ne (tg := 10) dX8_item_4 rfl rfl <| sn_ldc dX8_item_7 w_323 <| sn_ret dX8_item_9 ab_ri_int
set_option maxRecDepth 100000 in
theorem sX8_item_1 {G : ab_G} {xs : List Int32} {d : Nat} {cal : ab_F} (hcs : ab_CS G (ab_Z G xs) ab_Mf cal d) : ab_Sd G (ab_Z G xs) (d + 1) (ab_mY mX8_item pX8_item) 10 (bX8_item_1 cal) :=
  sn_aload_n dX8_item_10 rfl <| sn_iload_n dX8_item_11 rfl <| sn_iconst dX8_item_12 rfl <| sq_callV mt_126 hcs dX8_item_13 rfl w_947 w_949 w_15 w_55 w_950 hy_126 hm_126 <| sn_istore_n dX8_item_16 rfl (by decide) <| sn_iload_n dX8_item_17 rfl <| sn_if_eq (tg := 23) dX8_item_18 rfl rfl <| sn_iload_n dX8_item_21 rfl <| sn_ret dX8_item_22 ab_ri_int
set_option maxRecDepth 100000 in
theorem sX8_item_2 {G : ab_G} {xs : List Int32} {d : Nat} {cal : ab_F} (hcs : ab_CS G (ab_Z G xs) ab_Mf cal d) : ab_Sd G (ab_Z G xs) (d + 1) (ab_mY mX8_item pX8_item) 23 (bX8_item_2 cal) :=
  sn_aload_n dX8_item_23 rfl <| sn_getf dX8_item_24 rfl hinX8 (by decide) w_291 <| sn_iload_n dX8_item_27 rfl <| sn_aald dX8_item_28 rfl <| sn_getf dX8_item_29 rfl hinX3 (by decide) w_263 <| sn_astore dX8_item_32 (by decide) <| sn_iload_n dX8_item_34 rfl <| sn_iconst dX8_item_35 rfl <| sn_aload dX8_item_36 <| sn_getf dX8_item_38 rfl hinX2 (by decide) w_247 <| sn_iconst dX8_item_41 rfl <| sn_isub dX8_item_42 <| sq_callS mt_123 hcs dX8_item_43 w_320 w_321 w_55 w_322 hy_123 hm_123 <| sn_if_ne (tg := 52) dX8_item_46 rfl rfl <| sn_ldc dX8_item_49 w_901 <| sn_ret dX8_item_51 ab_ri_int
set_option maxRecDepth 100000 in
theorem sX8_item_3 {G : ab_G} {xs : List Int32} {d : Nat} {cal : ab_F} (hcs : ab_CS G (ab_Z G xs) ab_Mf cal d) : ab_Sd G (ab_Z G xs) (d + 1) (ab_mY mX8_item pX8_item) 52 (bX8_item_3 cal) :=
  sn_aload dX8_item_52 <| sn_iload_n dX8_item_54 rfl <| sq_callV mt_25 hcs dX8_item_55 rfl w_912 w_634 w_635 w_61 w_636 hy_25 hm_25 <| sn_if_eq (tg := 71) dX8_item_58 rfl rfl <| sn_aload dX8_item_61 <| sn_getf dX8_item_63 rfl hinX2 (by decide) w_243 <| sn_iload_n dX8_item_66 rfl <| sn_iald dX8_item_67 rfl <| sn_goto (tg := 73) dX8_item_68 rfl rfl
set_option maxRecDepth 100000 in
theorem sX8_item_4 {G : ab_G} {xs : List Int32} {d : Nat} {cal : ab_F} (hcs : ab_CS G (ab_Z G xs) ab_Mf cal d) : ab_Sd G (ab_Z G xs) (d + 1) (ab_mY mX8_item pX8_item) 71 (bX8_item_4 cal) :=
  sn_ldc dX8_item_71 w_417 <| sn_next rfl
set_option maxRecDepth 100000 in
theorem sX8_item_5 {G : ab_G} {xs : List Int32} {d : Nat} {cal : ab_F} (hcs : ab_CS G (ab_Z G xs) ab_Mf cal d) : ab_Sd G (ab_Z G xs) (d + 1) (ab_mY mX8_item pX8_item) 73 (bX8_item_5 cal) :=
  sn_ret dX8_item_73 ab_ri_int
theorem sX8_item {G : ab_G} {xs : List Int32} {d : Nat} {cal : ab_F} (hcs : ab_CS G (ab_Z G xs) ab_Mf cal d) : ab_BS G (ab_Z G xs) (d + 1) (ab_mY mX8_item pX8_item) pX8_item (bX8_item cal) := ⟨sX8_item_0 hcs, sX8_item_1 hcs, sX8_item_2 hcs, sX8_item_3 hcs, sX8_item_4 hcs, sX8_item_5 hcs, trivial⟩
theorem dgX8_rest_0 : decode cX8_rest 0 = .ok (.iload_n 1, 1) ∧ decode cX8_rest 1 = .ok (.invokestatic 275, 3) ∧ decode cX8_rest 4 = .ok (.ifCond .ne 6, 3) ∧ decode cX8_rest 7 = .ok (.ldc 64, 2) ∧ decode cX8_rest 9 = .ok (.ireturn, 1) ∧ decode cX8_rest 10 = .ok (.aload_n 0, 1) ∧ decode cX8_rest 11 = .ok (.iload_n 1, 1) ∧ decode cX8_rest 12 = .ok (.iconst 3, 1) ∧ decode cX8_rest 13 = .ok (.invokevirtual 296, 3) ∧ decode cX8_rest 16 = .ok (.istore_n 3, 1) ∧ decode cX8_rest 17 = .ok (.iload_n 3, 1) ∧ decode cX8_rest 18 = .ok (.ifCond .eq 5, 3) ∧ decode cX8_rest 21 = .ok (.iload_n 3, 1) ∧ decode cX8_rest 22 = .ok (.ireturn, 1) ∧ decode cX8_rest 23 = .ok (.iload_n 2, 1) ∧ decode cX8_rest 24 = .ok (.ifCond .ne 8, 3) := by decide +kernel
theorem dX8_rest_0 : decode cX8_rest 0 = .ok (.iload_n 1, 1) := dgX8_rest_0.1
theorem dX8_rest_1 : decode cX8_rest 1 = .ok (.invokestatic 275, 3) := dgX8_rest_0.2.1
theorem dX8_rest_4 : decode cX8_rest 4 = .ok (.ifCond .ne 6, 3) := dgX8_rest_0.2.2.1
theorem dX8_rest_7 : decode cX8_rest 7 = .ok (.ldc 64, 2) := dgX8_rest_0.2.2.2.1
theorem dX8_rest_9 : decode cX8_rest 9 = .ok (.ireturn, 1) := dgX8_rest_0.2.2.2.2.1
theorem dX8_rest_10 : decode cX8_rest 10 = .ok (.aload_n 0, 1) := dgX8_rest_0.2.2.2.2.2.1
theorem dX8_rest_11 : decode cX8_rest 11 = .ok (.iload_n 1, 1) := dgX8_rest_0.2.2.2.2.2.2.1
theorem dX8_rest_12 : decode cX8_rest 12 = .ok (.iconst 3, 1) := dgX8_rest_0.2.2.2.2.2.2.2.1
theorem dX8_rest_13 : decode cX8_rest 13 = .ok (.invokevirtual 296, 3) := dgX8_rest_0.2.2.2.2.2.2.2.2.1
theorem dX8_rest_16 : decode cX8_rest 16 = .ok (.istore_n 3, 1) := dgX8_rest_0.2.2.2.2.2.2.2.2.2.1
theorem dX8_rest_17 : decode cX8_rest 17 = .ok (.iload_n 3, 1) := dgX8_rest_0.2.2.2.2.2.2.2.2.2.2.1
theorem dX8_rest_18 : decode cX8_rest 18 = .ok (.ifCond .eq 5, 3) := dgX8_rest_0.2.2.2.2.2.2.2.2.2.2.2.1
theorem dX8_rest_21 : decode cX8_rest 21 = .ok (.iload_n 3, 1) := dgX8_rest_0.2.2.2.2.2.2.2.2.2.2.2.2.1
theorem dX8_rest_22 : decode cX8_rest 22 = .ok (.ireturn, 1) := dgX8_rest_0.2.2.2.2.2.2.2.2.2.2.2.2.2.1
theorem dX8_rest_23 : decode cX8_rest 23 = .ok (.iload_n 2, 1) := dgX8_rest_0.2.2.2.2.2.2.2.2.2.2.2.2.2.2.1
theorem dX8_rest_24 : decode cX8_rest 24 = .ok (.ifCond .ne 8, 3) := dgX8_rest_0.2.2.2.2.2.2.2.2.2.2.2.2.2.2.2
theorem dgX8_rest_1 : decode cX8_rest 27 = .ok (.ldc 120, 2) ∧ decode cX8_rest 29 = .ok (.goto 14, 3) ∧ decode cX8_rest 32 = .ok (.aload_n 0, 1) ∧ decode cX8_rest 33 = .ok (.getfield 50, 3) ∧ decode cX8_rest 36 = .ok (.iload_n 1, 1) ∧ decode cX8_rest 37 = .ok (.aaload, 1) ∧ decode cX8_rest 38 = .ok (.getfield 293, 3) ∧ decode cX8_rest 41 = .ok (.iload_n 2, 1) ∧ decode cX8_rest 42 = .ok (.irem, 1) ∧ decode cX8_rest 43 = .ok (.ireturn, 1) := by decide +kernel
theorem dX8_rest_27 : decode cX8_rest 27 = .ok (.ldc 120, 2) := dgX8_rest_1.1
theorem dX8_rest_29 : decode cX8_rest 29 = .ok (.goto 14, 3) := dgX8_rest_1.2.1
theorem dX8_rest_32 : decode cX8_rest 32 = .ok (.aload_n 0, 1) := dgX8_rest_1.2.2.1
theorem dX8_rest_33 : decode cX8_rest 33 = .ok (.getfield 50, 3) := dgX8_rest_1.2.2.2.1
theorem dX8_rest_36 : decode cX8_rest 36 = .ok (.iload_n 1, 1) := dgX8_rest_1.2.2.2.2.1
theorem dX8_rest_37 : decode cX8_rest 37 = .ok (.aaload, 1) := dgX8_rest_1.2.2.2.2.2.1
theorem dX8_rest_38 : decode cX8_rest 38 = .ok (.getfield 293, 3) := dgX8_rest_1.2.2.2.2.2.2.1
theorem dX8_rest_41 : decode cX8_rest 41 = .ok (.iload_n 2, 1) := dgX8_rest_1.2.2.2.2.2.2.2.1
theorem dX8_rest_42 : decode cX8_rest 42 = .ok (.irem, 1) := dgX8_rest_1.2.2.2.2.2.2.2.2.1
theorem dX8_rest_43 : decode cX8_rest 43 = .ok (.ireturn, 1) := dgX8_rest_1.2.2.2.2.2.2.2.2.2
abbrev pX8_rest : List Nat := [0, 10, 23, 32, 43]
def bX8_rest_0 (cal : ab_F) : ab_K := o_iload 1 <| o_callS cal 122 1 <| o_if (fun x => decide (¬ x = 0)) 1 <| o_push (.int (-1000000001)) <| o_ret (some .int)
def bX8_rest_1 (cal : ab_F) : ab_K := o_aload 0 <| o_iload 1 <| o_push (.int 3) <| o_callV cal 126 2 7 <| o_istore 3 <| o_iload 3 <| o_if (fun x => decide (x = 0)) 2 <| o_iload 3 <| o_ret (some .int)
def bX8_rest_2 (cal : ab_F) : ab_K := o_iload 2 <| o_if (fun x => decide (¬ x = 0)) 3 <| o_push (.int (-1000000002)) <| o_goto 4
def bX8_rest_3 (cal : ab_F) : ab_K := o_aload 0 <| o_getf 7 6 <| o_iload 1 <| o_aald 4 <| o_getf 2 5 <| o_iload 2 <| o_div (fun x y => x - x / y * y) <| o_goto 4
def bX8_rest_4 (cal : ab_F) : ab_K := o_ret (some .int)
def bX8_rest (cal : ab_F) : List ab_K := [bX8_rest_0 cal, bX8_rest_1 cal, bX8_rest_2 cal, bX8_rest_3 cal, bX8_rest_4 cal]
set_option maxRecDepth 100000 in
theorem sX8_rest_0 {G : ab_G} {xs : List Int32} {d : Nat} {cal : ab_F} (hcs : ab_CS G (ab_Z G xs) ab_Mf cal d) : ab_Sd G (ab_Z G xs) (d + 1) (ab_mY mX8_rest pX8_rest) 0 (bX8_rest_0 cal) :=
  sn_iload_n dX8_rest_0 rfl <| sq_callS mt_122 hcs dX8_rest_1 w_931 w_932 w_55 w_933 hy_122 hm_122 <| sn_if_ne (tg := 10) dX8_rest_4 rfl rfl <| sn_ldc dX8_rest_7 w_323 <| sn_ret dX8_rest_9 ab_ri_int
set_option maxRecDepth 100000 in
theorem sX8_rest_1 {G : ab_G} {xs : List Int32} {d : Nat} {cal : ab_F} (hcs : ab_CS G (ab_Z G xs) ab_Mf cal d) : ab_Sd G (ab_Z G xs) (d + 1) (ab_mY mX8_rest pX8_rest) 10 (bX8_rest_1 cal) :=
  sn_aload_n dX8_rest_10 rfl <| sn_iload_n dX8_rest_11 rfl <| sn_iconst dX8_rest_12 rfl <| sq_callV mt_126 hcs dX8_rest_13 rfl w_947 w_949 w_15 w_55 w_950 hy_126 hm_126 <| sn_istore_n dX8_rest_16 rfl (by decide) <| sn_iload_n dX8_rest_17 rfl <| sn_if_eq (tg := 23) dX8_rest_18 rfl rfl <| sn_iload_n dX8_rest_21 rfl <| sn_ret dX8_rest_22 ab_ri_int
set_option maxRecDepth 100000 in
theorem sX8_rest_2 {G : ab_G} {xs : List Int32} {d : Nat} {cal : ab_F} (hcs : ab_CS G (ab_Z G xs) ab_Mf cal d) : ab_Sd G (ab_Z G xs) (d + 1) (ab_mY mX8_rest pX8_rest) 23 (bX8_rest_2 cal) :=
  sn_iload_n dX8_rest_23 rfl <| sn_if_ne (tg := 32) dX8_rest_24 rfl rfl <| sn_ldc dX8_rest_27 w_427 <| sn_goto (tg := 43) dX8_rest_29 rfl rfl
set_option maxRecDepth 100000 in
theorem sX8_rest_3 {G : ab_G} {xs : List Int32} {d : Nat} {cal : ab_F} (hcs : ab_CS G (ab_Z G xs) ab_Mf cal d) : ab_Sd G (ab_Z G xs) (d + 1) (ab_mY mX8_rest pX8_rest) 32 (bX8_rest_3 cal) :=
  sn_aload_n dX8_rest_32 rfl <| sn_getf dX8_rest_33 rfl hinX8 (by decide) w_291 <| sn_iload_n dX8_rest_36 rfl <| sn_aald dX8_rest_37 rfl <| sn_getf dX8_rest_38 rfl hinX3 (by decide) w_271 <| sn_iload_n dX8_rest_41 rfl <| sn_irem dX8_rest_42 <| sn_next rfl
set_option maxRecDepth 100000 in
theorem sX8_rest_4 {G : ab_G} {xs : List Int32} {d : Nat} {cal : ab_F} (hcs : ab_CS G (ab_Z G xs) ab_Mf cal d) : ab_Sd G (ab_Z G xs) (d + 1) (ab_mY mX8_rest pX8_rest) 43 (bX8_rest_4 cal) :=
  sn_ret dX8_rest_43 ab_ri_int
theorem sX8_rest {G : ab_G} {xs : List Int32} {d : Nat} {cal : ab_F} (hcs : ab_CS G (ab_Z G xs) ab_Mf cal d) : ab_BS G (ab_Z G xs) (d + 1) (ab_mY mX8_rest pX8_rest) pX8_rest (bX8_rest cal) := ⟨sX8_rest_0 hcs, sX8_rest_1 hcs, sX8_rest_2 hcs, sX8_rest_3 hcs, sX8_rest_4 hcs, trivial⟩
theorem dgX8_tell_0 : decode cX8_tell 0 = .ok (.aload_n 0, 1) ∧ decode cX8_tell 1 = .ok (.getfield 308, 3) ∧ decode cX8_tell 4 = .ok (.bipush 60, 2) ∧ decode cX8_tell 6 = .ok (.if_icmp .lt 6, 3) ∧ decode cX8_tell 9 = .ok (.ldc 69, 2) ∧ decode cX8_tell 11 = .ok (.ireturn, 1) ∧ decode cX8_tell 12 = .ok (.aload_n 0, 1) ∧ decode cX8_tell 13 = .ok (.getfield 54, 3) ∧ decode cX8_tell 16 = .ok (.aload_n 0, 1) ∧ decode cX8_tell 17 = .ok (.getfield 308, 3) ∧ decode cX8_tell 20 = .ok (.iload_n 1, 1) ∧ decode cX8_tell 21 = .ok (.iastore, 1) ∧ decode cX8_tell 22 = .ok (.aload_n 0, 1) ∧ decode cX8_tell 23 = .ok (.dup, 1) ∧ decode cX8_tell 24 = .ok (.getfield 308, 3) ∧ decode cX8_tell 27 = .ok (.iconst 1, 1) := by decide +kernel
theorem dX8_tell_0 : decode cX8_tell 0 = .ok (.aload_n 0, 1) := dgX8_tell_0.1
theorem dX8_tell_1 : decode cX8_tell 1 = .ok (.getfield 308, 3) := dgX8_tell_0.2.1
theorem dX8_tell_4 : decode cX8_tell 4 = .ok (.bipush 60, 2) := dgX8_tell_0.2.2.1
theorem dX8_tell_6 : decode cX8_tell 6 = .ok (.if_icmp .lt 6, 3) := dgX8_tell_0.2.2.2.1
theorem dX8_tell_9 : decode cX8_tell 9 = .ok (.ldc 69, 2) := dgX8_tell_0.2.2.2.2.1
theorem dX8_tell_11 : decode cX8_tell 11 = .ok (.ireturn, 1) := dgX8_tell_0.2.2.2.2.2.1
theorem dX8_tell_12 : decode cX8_tell 12 = .ok (.aload_n 0, 1) := dgX8_tell_0.2.2.2.2.2.2.1
theorem dX8_tell_13 : decode cX8_tell 13 = .ok (.getfield 54, 3) := dgX8_tell_0.2.2.2.2.2.2.2.1
theorem dX8_tell_16 : decode cX8_tell 16 = .ok (.aload_n 0, 1) := dgX8_tell_0.2.2.2.2.2.2.2.2.1
theorem dX8_tell_17 : decode cX8_tell 17 = .ok (.getfield 308, 3) := dgX8_tell_0.2.2.2.2.2.2.2.2.2.1
theorem dX8_tell_20 : decode cX8_tell 20 = .ok (.iload_n 1, 1) := dgX8_tell_0.2.2.2.2.2.2.2.2.2.2.1
theorem dX8_tell_21 : decode cX8_tell 21 = .ok (.iastore, 1) := dgX8_tell_0.2.2.2.2.2.2.2.2.2.2.2.1
theorem dX8_tell_22 : decode cX8_tell 22 = .ok (.aload_n 0, 1) := dgX8_tell_0.2.2.2.2.2.2.2.2.2.2.2.2.1
theorem dX8_tell_23 : decode cX8_tell 23 = .ok (.dup, 1) := dgX8_tell_0.2.2.2.2.2.2.2.2.2.2.2.2.2.1
theorem dX8_tell_24 : decode cX8_tell 24 = .ok (.getfield 308, 3) := dgX8_tell_0.2.2.2.2.2.2.2.2.2.2.2.2.2.2.1
theorem dX8_tell_27 : decode cX8_tell 27 = .ok (.iconst 1, 1) := dgX8_tell_0.2.2.2.2.2.2.2.2.2.2.2.2.2.2.2
theorem dgX8_tell_1 : decode cX8_tell 28 = .ok (.iadd, 1) ∧ decode cX8_tell 29 = .ok (.putfield 308, 3) ∧ decode cX8_tell 32 = .ok (.aload_n 0, 1) ∧ decode cX8_tell 33 = .ok (.getfield 308, 3) ∧ decode cX8_tell 36 = .ok (.ireturn, 1) := by decide +kernel
theorem dX8_tell_28 : decode cX8_tell 28 = .ok (.iadd, 1) := dgX8_tell_1.1
theorem dX8_tell_29 : decode cX8_tell 29 = .ok (.putfield 308, 3) := dgX8_tell_1.2.1
theorem dX8_tell_32 : decode cX8_tell 32 = .ok (.aload_n 0, 1) := dgX8_tell_1.2.2.1
theorem dX8_tell_33 : decode cX8_tell 33 = .ok (.getfield 308, 3) := dgX8_tell_1.2.2.2.1
theorem dX8_tell_36 : decode cX8_tell 36 = .ok (.ireturn, 1) := dgX8_tell_1.2.2.2.2
abbrev pX8_tell : List Nat := [0, 12]
def bX8_tell_0 (cal : ab_F) : ab_K := o_aload 0 <| o_getf 7 8 <| o_push (.int 60) <| o_cmp (fun x y => decide (x < y)) 1 <| o_push (.int (-1000000003)) <| o_ret (some .int)
def bX8_tell_1 (cal : ab_F) : ab_K := o_aload 0 <| o_getf 7 7 <| o_aload 0 <| o_getf 7 8 <| o_iload 1 <| o_iast 0 (fun x => x) <| o_aload 0 <| o_dup <| o_getf 7 8 <| o_push (.int 1) <| o_bin (fun x y => x + y) <| o_putI 7 8 <| o_aload 0 <| o_getf 7 8 <| o_ret (some .int)
def bX8_tell (cal : ab_F) : List ab_K := [bX8_tell_0 cal, bX8_tell_1 cal]
set_option maxRecDepth 100000 in
theorem sX8_tell_0 {G : ab_G} {xs : List Int32} {d : Nat} {cal : ab_F} (hcs : ab_CS G (ab_Z G xs) ab_Mf cal d) : ab_Sd G (ab_Z G xs) (d + 1) (ab_mY mX8_tell pX8_tell) 0 (bX8_tell_0 cal) :=
  sn_aload_n dX8_tell_0 rfl <| sn_getf dX8_tell_1 rfl hinX8 (by decide) w_293 <| sn_bipush dX8_tell_4 rfl <| sn_cmp_lt (tg := 12) dX8_tell_6 rfl rfl <| sn_ldc dX8_tell_9 w_324 <| sn_ret dX8_tell_11 ab_ri_int
set_option maxRecDepth 100000 in
theorem sX8_tell_1 {G : ab_G} {xs : List Int32} {d : Nat} {cal : ab_F} (hcs : ab_CS G (ab_Z G xs) ab_Mf cal d) : ab_Sd G (ab_Z G xs) (d + 1) (ab_mY mX8_tell pX8_tell) 12 (bX8_tell_1 cal) :=
  sn_aload_n dX8_tell_12 rfl <| sn_getf dX8_tell_13 rfl hinX8 (by decide) w_292 <| sn_aload_n dX8_tell_16 rfl <| sn_getf dX8_tell_17 rfl hinX8 (by decide) w_293 <| sn_iload_n dX8_tell_20 rfl <| sn_iast dX8_tell_21 rfl rfl <| sn_aload_n dX8_tell_22 rfl <| sn_dup dX8_tell_23 <| sn_getf dX8_tell_24 rfl hinX8 (by decide) w_293 <| sn_iconst dX8_tell_27 rfl <| sn_iadd dX8_tell_28 <| sn_putI tyX8 tyX8_ok nmX8 dX8_tell_29 rfl hinX8 (by decide) w_293 (Or.inl rfl) (tyX8_ok 8 (by decide)) <| sn_aload_n dX8_tell_32 rfl <| sn_getf dX8_tell_33 rfl hinX8 (by decide) w_293 <| sn_ret dX8_tell_36 ab_ri_int
theorem sX8_tell {G : ab_G} {xs : List Int32} {d : Nat} {cal : ab_F} (hcs : ab_CS G (ab_Z G xs) ab_Mf cal d) : ab_BS G (ab_Z G xs) (d + 1) (ab_mY mX8_tell pX8_tell) pX8_tell (bX8_tell cal) := ⟨sX8_tell_0 hcs, sX8_tell_1 hcs, trivial⟩
theorem dgX8_check_0 : decode cX8_check 0 = .ok (.aload_n 0, 1) ∧ decode cX8_check 1 = .ok (.getfield 308, 3) ∧ decode cX8_check 4 = .ok (.istore_n 2, 1) ∧ decode cX8_check 5 = .ok (.aload_n 0, 1) ∧ decode cX8_check 6 = .ok (.iconst 0, 1) ∧ decode cX8_check 7 = .ok (.putfield 308, 3) ∧ decode cX8_check 10 = .ok (.iload_n 1, 1) ∧ decode cX8_check 11 = .ok (.iconst 1, 1) ∧ decode cX8_check 12 = .ok (.bipush 30, 2) ∧ decode cX8_check 14 = .ok (.invokestatic 60, 3) ∧ decode cX8_check 17 = .ok (.ifCond .ne 6, 3) ∧ decode cX8_check 20 = .ok (.ldc 64, 2) ∧ decode cX8_check 22 = .ok (.ireturn, 1) ∧ decode cX8_check 23 = .ok (.aload_n 0, 1) ∧ decode cX8_check 24 = .ok (.getfield 311, 3) ∧ decode cX8_check 27 = .ok (.ifCond .ne 6, 3) := by decide +kernel
theorem dX8_check_0 : decode cX8_check 0 = .ok (.aload_n 0, 1) := dgX8_check_0.1
theorem dX8_check_1 : decode cX8_check 1 = .ok (.getfield 308, 3) := dgX8_check_0.2.1
theorem dX8_check_4 : decode cX8_check 4 = .ok (.istore_n 2, 1) := dgX8_check_0.2.2.1
theorem dX8_check_5 : decode cX8_check 5 = .ok (.aload_n 0, 1) := dgX8_check_0.2.2.2.1
theorem dX8_check_6 : decode cX8_check 6 = .ok (.iconst 0, 1) := dgX8_check_0.2.2.2.2.1
theorem dX8_check_7 : decode cX8_check 7 = .ok (.putfield 308, 3) := dgX8_check_0.2.2.2.2.2.1
theorem dX8_check_10 : decode cX8_check 10 = .ok (.iload_n 1, 1) := dgX8_check_0.2.2.2.2.2.2.1
theorem dX8_check_11 : decode cX8_check 11 = .ok (.iconst 1, 1) := dgX8_check_0.2.2.2.2.2.2.2.1
theorem dX8_check_12 : decode cX8_check 12 = .ok (.bipush 30, 2) := dgX8_check_0.2.2.2.2.2.2.2.2.1
theorem dX8_check_14 : decode cX8_check 14 = .ok (.invokestatic 60, 3) := dgX8_check_0.2.2.2.2.2.2.2.2.2.1
theorem dX8_check_17 : decode cX8_check 17 = .ok (.ifCond .ne 6, 3) := dgX8_check_0.2.2.2.2.2.2.2.2.2.2.1
theorem dX8_check_20 : decode cX8_check 20 = .ok (.ldc 64, 2) := dgX8_check_0.2.2.2.2.2.2.2.2.2.2.2.1
theorem dX8_check_22 : decode cX8_check 22 = .ok (.ireturn, 1) := dgX8_check_0.2.2.2.2.2.2.2.2.2.2.2.2.1
theorem dX8_check_23 : decode cX8_check 23 = .ok (.aload_n 0, 1) := dgX8_check_0.2.2.2.2.2.2.2.2.2.2.2.2.2.1
theorem dX8_check_24 : decode cX8_check 24 = .ok (.getfield 311, 3) := dgX8_check_0.2.2.2.2.2.2.2.2.2.2.2.2.2.2.1
theorem dX8_check_27 : decode cX8_check 27 = .ok (.ifCond .ne 6, 3) := dgX8_check_0.2.2.2.2.2.2.2.2.2.2.2.2.2.2.2
theorem dgX8_check_1 : decode cX8_check 30 = .ok (.ldc 120, 2) ∧ decode cX8_check 32 = .ok (.ireturn, 1) ∧ decode cX8_check 33 = .ok (.aload_n 0, 1) ∧ decode cX8_check 34 = .ok (.getfield 22, 3) ∧ decode cX8_check 37 = .ok (.aload_n 0, 1) ∧ decode cX8_check 38 = .ok (.getfield 16, 3) ∧ decode cX8_check 41 = .ok (.iload_n 1, 1) ∧ decode cX8_check 42 = .ok (.sipush 9999, 3) ∧ decode cX8_check 45 = .ok (.aload_n 0, 1) ∧ decode cX8_check 46 = .ok (.getfield 16, 3) ∧ decode cX8_check 49 = .ok (.getfield 147, 3) ∧ decode cX8_check 52 = .ok (.isub, 1) ∧ decode cX8_check 53 = .ok (.invokestatic 131, 3) ∧ decode cX8_check 56 = .ok (.aload_n 0, 1) ∧ decode cX8_check 57 = .ok (.getfield 54, 3) ∧ decode cX8_check 60 = .ok (.iload_n 2, 1) := by decide +kernel
theorem dX8_check_30 : decode cX8_check 30 = .ok (.ldc 120, 2) := dgX8_check_1.1
theorem dX8_check_32 : decode cX8_check 32 = .ok (.ireturn, 1) := dgX8_check_1.2.1
theorem dX8_check_33 : decode cX8_check 33 = .ok (.aload_n 0, 1) := dgX8_check_1.2.2.1
theorem dX8_check_34 : decode cX8_check 34 = .ok (.getfield 22, 3) := dgX8_check_1.2.2.2.1
theorem dX8_check_37 : decode cX8_check 37 = .ok (.aload_n 0, 1) := dgX8_check_1.2.2.2.2.1
theorem dX8_check_38 : decode cX8_check 38 = .ok (.getfield 16, 3) := dgX8_check_1.2.2.2.2.2.1
theorem dX8_check_41 : decode cX8_check 41 = .ok (.iload_n 1, 1) := dgX8_check_1.2.2.2.2.2.2.1
theorem dX8_check_42 : decode cX8_check 42 = .ok (.sipush 9999, 3) := dgX8_check_1.2.2.2.2.2.2.2.1
theorem dX8_check_45 : decode cX8_check 45 = .ok (.aload_n 0, 1) := dgX8_check_1.2.2.2.2.2.2.2.2.1
theorem dX8_check_46 : decode cX8_check 46 = .ok (.getfield 16, 3) := dgX8_check_1.2.2.2.2.2.2.2.2.2.1
theorem dX8_check_49 : decode cX8_check 49 = .ok (.getfield 147, 3) := dgX8_check_1.2.2.2.2.2.2.2.2.2.2.1
theorem dX8_check_52 : decode cX8_check 52 = .ok (.isub, 1) := dgX8_check_1.2.2.2.2.2.2.2.2.2.2.2.1
theorem dX8_check_53 : decode cX8_check 53 = .ok (.invokestatic 131, 3) := dgX8_check_1.2.2.2.2.2.2.2.2.2.2.2.2.1
theorem dX8_check_56 : decode cX8_check 56 = .ok (.aload_n 0, 1) := dgX8_check_1.2.2.2.2.2.2.2.2.2.2.2.2.2.1
theorem dX8_check_57 : decode cX8_check 57 = .ok (.getfield 54, 3) := dgX8_check_1.2.2.2.2.2.2.2.2.2.2.2.2.2.2.1
theorem dX8_check_60 : decode cX8_check 60 = .ok (.iload_n 2, 1) := dgX8_check_1.2.2.2.2.2.2.2.2.2.2.2.2.2.2.2
theorem dgX8_check_2 : decode cX8_check 61 = .ok (.invokevirtual 315, 3) ∧ decode cX8_check 64 = .ok (.istore_n 3, 1) ∧ decode cX8_check 65 = .ok (.iload_n 3, 1) ∧ decode cX8_check 66 = .ok (.iconst (-1), 1) ∧ decode cX8_check 67 = .ok (.if_icmp .ne 7, 3) ∧ decode cX8_check 70 = .ok (.iconst 0, 1) ∧ decode cX8_check 71 = .ok (.goto 6, 3) ∧ decode cX8_check 74 = .ok (.iconst 1, 1) ∧ decode cX8_check 75 = .ok (.iload_n 3, 1) ∧ decode cX8_check 76 = .ok (.iadd, 1) ∧ decode cX8_check 77 = .ok (.ireturn, 1) := by decide +kernel
theorem dX8_check_61 : decode cX8_check 61 = .ok (.invokevirtual 315, 3) := dgX8_check_2.1
theorem dX8_check_64 : decode cX8_check 64 = .ok (.istore_n 3, 1) := dgX8_check_2.2.1
theorem dX8_check_65 : decode cX8_check 65 = .ok (.iload_n 3, 1) := dgX8_check_2.2.2.1
theorem dX8_check_66 : decode cX8_check 66 = .ok (.iconst (-1), 1) := dgX8_check_2.2.2.2.1
theorem dX8_check_67 : decode cX8_check 67 = .ok (.if_icmp .ne 7, 3) := dgX8_check_2.2.2.2.2.1
theorem dX8_check_70 : decode cX8_check 70 = .ok (.iconst 0, 1) := dgX8_check_2.2.2.2.2.2.1
theorem dX8_check_71 : decode cX8_check 71 = .ok (.goto 6, 3) := dgX8_check_2.2.2.2.2.2.2.1
theorem dX8_check_74 : decode cX8_check 74 = .ok (.iconst 1, 1) := dgX8_check_2.2.2.2.2.2.2.2.1
theorem dX8_check_75 : decode cX8_check 75 = .ok (.iload_n 3, 1) := dgX8_check_2.2.2.2.2.2.2.2.2.1
theorem dX8_check_76 : decode cX8_check 76 = .ok (.iadd, 1) := dgX8_check_2.2.2.2.2.2.2.2.2.2.1
theorem dX8_check_77 : decode cX8_check 77 = .ok (.ireturn, 1) := dgX8_check_2.2.2.2.2.2.2.2.2.2.2
abbrev pX8_check : List Nat := [0, 23, 33, 74, 77]
def bX8_check_0 (cal : ab_F) : ab_K := o_aload 0 <| o_getf 7 8 <| o_istore 2 <| o_aload 0 <| o_push (.int 0) <| o_putI 7 8 <| o_iload 1 <| o_push (.int 1) <| o_push (.int 30) <| o_callS cal 123 3 <| o_if (fun x => decide (¬ x = 0)) 1 <| o_push (.int (-1000000001)) <| o_ret (some .int)
def bX8_check_1 (cal : ab_F) : ab_K := o_aload 0 <| o_getf 7 9 <| o_if (fun x => decide (¬ x = 0)) 2 <| o_push (.int (-1000000002)) <| o_ret (some .int)
def bX8_check_2 (cal : ab_F) : ab_K := o_aload 0 <| o_getf 7 2 <| o_aload 0 <| o_getf 7 1 <| o_iload 1 <| o_push (.int 9999) <| o_aload 0 <| o_getf 7 1 <| o_getf 3 13 <| o_bin (fun x y => x - y) <| o_m2 (fun x y => if y < x then y else x) <| o_aload 0 <| o_getf 7 7 <| o_iload 2 <| o_callV cal 71 4 6 <| o_istore 3 <| o_iload 3 <| o_push (.int (-1)) <| o_cmp (fun x y => decide (¬ x = y)) 3 <| o_push (.int 0) <| o_goto 4
def bX8_check_3 (cal : ab_F) : ab_K := o_push (.int 1) <| o_iload 3 <| o_bin (fun x y => x + y) <| o_goto 4
def bX8_check_4 (cal : ab_F) : ab_K := o_ret (some .int)
def bX8_check (cal : ab_F) : List ab_K := [bX8_check_0 cal, bX8_check_1 cal, bX8_check_2 cal, bX8_check_3 cal, bX8_check_4 cal]
set_option maxRecDepth 100000 in
theorem sX8_check_0 {G : ab_G} {xs : List Int32} {d : Nat} {cal : ab_F} (hcs : ab_CS G (ab_Z G xs) ab_Mf cal d) : ab_Sd G (ab_Z G xs) (d + 1) (ab_mY mX8_check pX8_check) 0 (bX8_check_0 cal) :=
  sn_aload_n dX8_check_0 rfl <| sn_getf dX8_check_1 rfl hinX8 (by decide) w_293 <| sn_istore_n dX8_check_4 rfl (by decide) <| sn_aload_n dX8_check_5 rfl <| sn_iconst dX8_check_6 rfl <| sn_putI tyX8 tyX8_ok nmX8 dX8_check_7 rfl hinX8 (by decide) w_293 (Or.inl rfl) (tyX8_ok 8 (by decide)) <| sn_iload_n dX8_check_10 rfl <| sn_iconst dX8_check_11 rfl <| sn_bipush dX8_check_12 rfl <| sq_callS mt_123 hcs dX8_check_14 w_320 w_321 w_55 w_322 hy_123 hm_123 <| sn_if_ne (tg := 23) dX8_check_17 rfl rfl <| sn_ldc dX8_check_20 w_323 <| sn_ret dX8_check_22 ab_ri_int
set_option maxRecDepth 100000 in
theorem sX8_check_1 {G : ab_G} {xs : List Int32} {d : Nat} {cal : ab_F} (hcs : ab_CS G (ab_Z G xs) ab_Mf cal d) : ab_Sd G (ab_Z G xs) (d + 1) (ab_mY mX8_check pX8_check) 23 (bX8_check_1 cal) :=
  sn_aload_n dX8_check_23 rfl <| sn_getf dX8_check_24 rfl hinX8 (by decide) w_294 <| sn_if_ne (tg := 33) dX8_check_27 rfl rfl <| sn_ldc dX8_check_30 w_427 <| sn_ret dX8_check_32 ab_ri_int
set_option maxRecDepth 100000 in
theorem sX8_check_2 {G : ab_G} {xs : List Int32} {d : Nat} {cal : ab_F} (hcs : ab_CS G (ab_Z G xs) ab_Mf cal d) : ab_Sd G (ab_Z G xs) (d + 1) (ab_mY mX8_check pX8_check) 33 (bX8_check_2 cal) :=
  sn_aload_n dX8_check_33 rfl <| sn_getf dX8_check_34 rfl hinX8 (by decide) w_287 <| sn_aload_n dX8_check_37 rfl <| sn_getf dX8_check_38 rfl hinX8 (by decide) w_286 <| sn_iload_n dX8_check_41 rfl <| sn_sipush dX8_check_42 rfl <| sn_aload_n dX8_check_45 rfl <| sn_getf dX8_check_46 rfl hinX8 (by decide) w_286 <| sn_getf dX8_check_49 rfl hinX4 (by decide) w_120 <| sn_isub dX8_check_52 <| sn_mmin (Nat.le_add_left 1 _) rfl dX8_check_53 w_371 w_372 w_66 w_373 <| sn_aload_n dX8_check_56 rfl <| sn_getf dX8_check_57 rfl hinX8 (by decide) w_292 <| sn_iload_n dX8_check_60 rfl <| sq_callV mt_71 hcs dX8_check_61 rfl w_967 w_968 w_969 w_58 w_970 hy_71 hm_71 <| sn_istore_n dX8_check_64 rfl (by decide) <| sn_iload_n dX8_check_65 rfl <| sn_iconst dX8_check_66 rfl <| sn_cmp_ne (tg := 74) dX8_check_67 rfl rfl <| sn_iconst dX8_check_70 rfl <| sn_goto (tg := 77) dX8_check_71 rfl rfl
set_option maxRecDepth 100000 in
theorem sX8_check_3 {G : ab_G} {xs : List Int32} {d : Nat} {cal : ab_F} (hcs : ab_CS G (ab_Z G xs) ab_Mf cal d) : ab_Sd G (ab_Z G xs) (d + 1) (ab_mY mX8_check pX8_check) 74 (bX8_check_3 cal) :=
  sn_iconst dX8_check_74 rfl <| sn_iload_n dX8_check_75 rfl <| sn_iadd dX8_check_76 <| sn_next rfl
set_option maxRecDepth 100000 in
theorem sX8_check_4 {G : ab_G} {xs : List Int32} {d : Nat} {cal : ab_F} (hcs : ab_CS G (ab_Z G xs) ab_Mf cal d) : ab_Sd G (ab_Z G xs) (d + 1) (ab_mY mX8_check pX8_check) 77 (bX8_check_4 cal) :=
  sn_ret dX8_check_77 ab_ri_int
theorem sX8_check {G : ab_G} {xs : List Int32} {d : Nat} {cal : ab_F} (hcs : ab_CS G (ab_Z G xs) ab_Mf cal d) : ab_BS G (ab_Z G xs) (d + 1) (ab_mY mX8_check pX8_check) pX8_check (bX8_check cal) := ⟨sX8_check_0 hcs, sX8_check_1 hcs, sX8_check_2 hcs, sX8_check_3 hcs, sX8_check_4 hcs, trivial⟩
theorem dgX8_keep_0 : decode cX8_keep 0 = .ok (.aload_n 0, 1) ∧ decode cX8_keep 1 = .ok (.getfield 16, 3) ∧ decode cX8_keep 4 = .ok (.aload_n 0, 1) ∧ decode cX8_keep 5 = .ok (.getfield 10, 3) ∧ decode cX8_keep 8 = .ok (.invokevirtual 319, 3) ∧ decode cX8_keep 11 = .ok (.aload_n 0, 1) ∧ decode cX8_keep 12 = .ok (.iconst 1, 1) ∧ decode cX8_keep 13 = .ok (.putfield 311, 3) ∧ decode cX8_keep 16 = .ok (.aload_n 0, 1) ∧ decode cX8_keep 17 = .ok (.getfield 10, 3) ∧ decode cX8_keep 20 = .ok (.getfield 65, 3) ∧ decode cX8_keep 23 = .ok (.ireturn, 1) := by decide +kernel
theorem dX8_keep_0 : decode cX8_keep 0 = .ok (.aload_n 0, 1) := dgX8_keep_0.1
theorem dX8_keep_1 : decode cX8_keep 1 = .ok (.getfield 16, 3) := dgX8_keep_0.2.1
theorem dX8_keep_4 : decode cX8_keep 4 = .ok (.aload_n 0, 1) := dgX8_keep_0.2.2.1
theorem dX8_keep_5 : decode cX8_keep 5 = .ok (.getfield 10, 3) := dgX8_keep_0.2.2.2.1
theorem dX8_keep_8 : decode cX8_keep 8 = .ok (.invokevirtual 319, 3) := dgX8_keep_0.2.2.2.2.1
theorem dX8_keep_11 : decode cX8_keep 11 = .ok (.aload_n 0, 1) := dgX8_keep_0.2.2.2.2.2.1
theorem dX8_keep_12 : decode cX8_keep 12 = .ok (.iconst 1, 1) := dgX8_keep_0.2.2.2.2.2.2.1
theorem dX8_keep_13 : decode cX8_keep 13 = .ok (.putfield 311, 3) := dgX8_keep_0.2.2.2.2.2.2.2.1
theorem dX8_keep_16 : decode cX8_keep 16 = .ok (.aload_n 0, 1) := dgX8_keep_0.2.2.2.2.2.2.2.2.1
theorem dX8_keep_17 : decode cX8_keep 17 = .ok (.getfield 10, 3) := dgX8_keep_0.2.2.2.2.2.2.2.2.2.1
theorem dX8_keep_20 : decode cX8_keep 20 = .ok (.getfield 65, 3) := dgX8_keep_0.2.2.2.2.2.2.2.2.2.2.1
theorem dX8_keep_23 : decode cX8_keep 23 = .ok (.ireturn, 1) := dgX8_keep_0.2.2.2.2.2.2.2.2.2.2.2
abbrev pX8_keep : List Nat := [0]
def bX8_keep_0 (cal : ab_F) : ab_K := o_aload 0 <| o_getf 7 1 <| o_aload 0 <| o_getf 7 0 <| o_callV cal 30 1 3 <| o_aload 0 <| o_push (.int 1) <| o_putZ 7 9 <| o_aload 0 <| o_getf 7 0 <| o_getf 3 10 <| o_ret (some .int)
def bX8_keep (cal : ab_F) : List ab_K := [bX8_keep_0 cal]
set_option maxRecDepth 100000 in
theorem sX8_keep_0 {G : ab_G} {xs : List Int32} {d : Nat} {cal : ab_F} (hcs : ab_CS G (ab_Z G xs) ab_Mf cal d) : ab_Sd G (ab_Z G xs) (d + 1) (ab_mY mX8_keep pX8_keep) 0 (bX8_keep_0 cal) :=
  sn_aload_n dX8_keep_0 rfl <| sn_getf dX8_keep_1 rfl hinX8 (by decide) w_286 <| sn_aload_n dX8_keep_4 rfl <| sn_getf dX8_keep_5 rfl hinX8 (by decide) w_285 <| sq_callV mt_30 hcs dX8_keep_8 rfl w_976 w_590 w_591 w_56 w_592 hy_30 hm_30 <| sn_aload_n dX8_keep_11 rfl <| sn_iconst dX8_keep_12 rfl <| sn_putZ tyX8 tyX8_ok nmX8 dX8_keep_13 rfl hinX8 (by decide) w_294 (Or.inl rfl) (tyX8_ok 9 (by decide)) <| sn_aload_n dX8_keep_16 rfl <| sn_getf dX8_keep_17 rfl hinX8 (by decide) w_285 <| sn_getf dX8_keep_20 rfl hinX4 (by decide) w_112 <| sn_ret dX8_keep_23 ab_ri_int
theorem sX8_keep {G : ab_G} {xs : List Int32} {d : Nat} {cal : ab_F} (hcs : ab_CS G (ab_Z G xs) ab_Mf cal d) : ab_BS G (ab_Z G xs) (d + 1) (ab_mY mX8_keep pX8_keep) pX8_keep (bX8_keep cal) := ⟨sX8_keep_0 hcs, trivial⟩
theorem dgX8_back_0 : decode cX8_back 0 = .ok (.aload_n 0, 1) ∧ decode cX8_back 1 = .ok (.getfield 311, 3) ∧ decode cX8_back 4 = .ok (.ifCond .ne 6, 3) ∧ decode cX8_back 7 = .ok (.ldc 120, 2) ∧ decode cX8_back 9 = .ok (.ireturn, 1) ∧ decode cX8_back 10 = .ok (.aload_n 0, 1) ∧ decode cX8_back 11 = .ok (.getfield 10, 3) ∧ decode cX8_back 14 = .ok (.aload_n 0, 1) ∧ decode cX8_back 15 = .ok (.getfield 16, 3) ∧ decode cX8_back 18 = .ok (.invokevirtual 319, 3) ∧ decode cX8_back 21 = .ok (.aload_n 0, 1) ∧ decode cX8_back 22 = .ok (.getfield 10, 3) ∧ decode cX8_back 25 = .ok (.getfield 65, 3) ∧ decode cX8_back 28 = .ok (.ireturn, 1) := by decide +kernel
theorem dX8_back_0 : decode cX8_back 0 = .ok (.aload_n 0, 1) := dgX8_back_0.1
theorem dX8_back_1 : decode cX8_back 1 = .ok (.getfield 311, 3) := dgX8_back_0.2.1
theorem dX8_back_4 : decode cX8_back 4 = .ok (.ifCond .ne 6, 3) := dgX8_back_0.2.2.1
theorem dX8_back_7 : decode cX8_back 7 = .ok (.ldc 120, 2) := dgX8_back_0.2.2.2.1
theorem dX8_back_9 : decode cX8_back 9 = .ok (.ireturn, 1) := dgX8_back_0.2.2.2.2.1
theorem dX8_back_10 : decode cX8_back 10 = .ok (.aload_n 0, 1) := dgX8_back_0.2.2.2.2.2.1
theorem dX8_back_11 : decode cX8_back 11 = .ok (.getfield 10, 3) := dgX8_back_0.2.2.2.2.2.2.1
theorem dX8_back_14 : decode cX8_back 14 = .ok (.aload_n 0, 1) := dgX8_back_0.2.2.2.2.2.2.2.1
theorem dX8_back_15 : decode cX8_back 15 = .ok (.getfield 16, 3) := dgX8_back_0.2.2.2.2.2.2.2.2.1
theorem dX8_back_18 : decode cX8_back 18 = .ok (.invokevirtual 319, 3) := dgX8_back_0.2.2.2.2.2.2.2.2.2.1
theorem dX8_back_21 : decode cX8_back 21 = .ok (.aload_n 0, 1) := dgX8_back_0.2.2.2.2.2.2.2.2.2.2.1
theorem dX8_back_22 : decode cX8_back 22 = .ok (.getfield 10, 3) := dgX8_back_0.2.2.2.2.2.2.2.2.2.2.2.1
theorem dX8_back_25 : decode cX8_back 25 = .ok (.getfield 65, 3) := dgX8_back_0.2.2.2.2.2.2.2.2.2.2.2.2.1
theorem dX8_back_28 : decode cX8_back 28 = .ok (.ireturn, 1) := dgX8_back_0.2.2.2.2.2.2.2.2.2.2.2.2.2
abbrev pX8_back : List Nat := [0, 10]
def bX8_back_0 (cal : ab_F) : ab_K := o_aload 0 <| o_getf 7 9 <| o_if (fun x => decide (¬ x = 0)) 1 <| o_push (.int (-1000000002)) <| o_ret (some .int)
def bX8_back_1 (cal : ab_F) : ab_K := o_aload 0 <| o_getf 7 0 <| o_aload 0 <| o_getf 7 1 <| o_callV cal 30 1 3 <| o_aload 0 <| o_getf 7 0 <| o_getf 3 10 <| o_ret (some .int)
def bX8_back (cal : ab_F) : List ab_K := [bX8_back_0 cal, bX8_back_1 cal]
set_option maxRecDepth 100000 in
theorem sX8_back_0 {G : ab_G} {xs : List Int32} {d : Nat} {cal : ab_F} (hcs : ab_CS G (ab_Z G xs) ab_Mf cal d) : ab_Sd G (ab_Z G xs) (d + 1) (ab_mY mX8_back pX8_back) 0 (bX8_back_0 cal) :=
  sn_aload_n dX8_back_0 rfl <| sn_getf dX8_back_1 rfl hinX8 (by decide) w_294 <| sn_if_ne (tg := 10) dX8_back_4 rfl rfl <| sn_ldc dX8_back_7 w_427 <| sn_ret dX8_back_9 ab_ri_int
set_option maxRecDepth 100000 in
theorem sX8_back_1 {G : ab_G} {xs : List Int32} {d : Nat} {cal : ab_F} (hcs : ab_CS G (ab_Z G xs) ab_Mf cal d) : ab_Sd G (ab_Z G xs) (d + 1) (ab_mY mX8_back pX8_back) 10 (bX8_back_1 cal) :=
  sn_aload_n dX8_back_10 rfl <| sn_getf dX8_back_11 rfl hinX8 (by decide) w_285 <| sn_aload_n dX8_back_14 rfl <| sn_getf dX8_back_15 rfl hinX8 (by decide) w_286 <| sq_callV mt_30 hcs dX8_back_18 rfl w_976 w_590 w_591 w_56 w_592 hy_30 hm_30 <| sn_aload_n dX8_back_21 rfl <| sn_getf dX8_back_22 rfl hinX8 (by decide) w_285 <| sn_getf dX8_back_25 rfl hinX4 (by decide) w_112 <| sn_ret dX8_back_28 ab_ri_int
theorem sX8_back {G : ab_G} {xs : List Int32} {d : Nat} {cal : ab_F} (hcs : ab_CS G (ab_Z G xs) ab_Mf cal d) : ab_BS G (ab_Z G xs) (d + 1) (ab_mY mX8_back pX8_back) pX8_back (bX8_back cal) := ⟨sX8_back_0 hcs, sX8_back_1 hcs, trivial⟩
