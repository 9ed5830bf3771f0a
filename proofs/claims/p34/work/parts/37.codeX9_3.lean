theorem dgX9_isFigure_0 : decode cX9_isFigure 0 = .ok (.iload_n 1, 1) ∧ decode cX9_isFigure 1 = .ok (.aload_n 0, 1) ∧ decode cX9_isFigure 2 = .ok (.getfield 214, 3) ∧ decode cX9_isFigure 5 = .ok (.if_icmp .ge 29, 3) ∧ decode cX9_isFigure 8 = .ok (.aload_n 0, 1) ∧ decode cX9_isFigure 9 = .ok (.getfield 32, 3) ∧ decode cX9_isFigure 12 = .ok (.iload_n 1, 1) ∧ decode cX9_isFigure 13 = .ok (.iaload, 1) ∧ decode cX9_isFigure 14 = .ok (.bipush 48, 2) ∧ decode cX9_isFigure 16 = .ok (.if_icmp .lt 18, 3) ∧ decode cX9_isFigure 19 = .ok (.aload_n 0, 1) ∧ decode cX9_isFigure 20 = .ok (.getfield 32, 3) ∧ decode cX9_isFigure 23 = .ok (.iload_n 1, 1) ∧ decode cX9_isFigure 24 = .ok (.iaload, 1) ∧ decode cX9_isFigure 25 = .ok (.bipush 57, 2) ∧ decode cX9_isFigure 27 = .ok (.if_icmp .gt 7, 3) := by decide +kernel
theorem dX9_isFigure_0 : decode cX9_isFigure 0 = .ok (.iload_n 1, 1) := dgX9_isFigure_0.1
theorem dX9_isFigure_1 : decode cX9_isFigure 1 = .ok (.aload_n 0, 1) := dgX9_isFigure_0.2.1
theorem dX9_isFigure_2 : decode cX9_isFigure 2 = .ok (.getfield 214, 3) := dgX9_isFigure_0.2.2.1
theorem dX9_isFigure_5 : decode cX9_isFigure 5 = .ok (.if_icmp .ge 29, 3) := dgX9_isFigure_0.2.2.2.1
theorem dX9_isFigure_8 : decode cX9_isFigure 8 = .ok (.aload_n 0, 1) := dgX9_isFigure_0.2.2.2.2.1
theorem dX9_isFigure_9 : decode cX9_isFigure 9 = .ok (.getfield 32, 3) := dgX9_isFigure_0.2.2.2.2.2.1
theorem dX9_isFigure_12 : decode cX9_isFigure 12 = .ok (.iload_n 1, 1) := dgX9_isFigure_0.2.2.2.2.2.2.1
theorem dX9_isFigure_13 : decode cX9_isFigure 13 = .ok (.iaload, 1) := dgX9_isFigure_0.2.2.2.2.2.2.2.1
theorem dX9_isFigure_14 : decode cX9_isFigure 14 = .ok (.bipush 48, 2) := dgX9_isFigure_0.2.2.2.2.2.2.2.2.1
theorem dX9_isFigure_16 : decode cX9_isFigure 16 = .ok (.if_icmp .lt 18, 3) := dgX9_isFigure_0.2.2.2.2.2.2.2.2.2.1
theorem dX9_isFigure_19 : decode cX9_isFigure 19 = .ok (.aload_n 0, 1) := dgX9_isFigure_0.2.2.2.2.2.2.2.2.2.2.1
theorem dX9_isFigure_20 : decode cX9_isFigure 20 = .ok (.getfield 32, 3) := dgX9_isFigure_0.2.2.2.2.2.2.2.2.2.2.2.1
theorem dX9_isFigure_23 : decode cX9_isFigure 23 = .ok (.iload_n 1, 1) := dgX9_isFigure_0.2.2.2.2.2.2.2.2.2.2.2.2.1
theorem dX9_isFigure_24 : decode cX9_isFigure 24 = .ok (.iaload, 1) := dgX9_isFigure_0.2.2.2.2.2.2.2.2.2.2.2.2.2.1
theorem dX9_isFigure_25 : decode cX9_isFigure 25 = .ok (.bipush 57, 2) := dgX9_isFigure_0.2.2.2.2.2.2.2.2.2.2.2.2.2.2.1
theorem dX9_isFigure_27 : decode cX9_isFigure 27 = .ok (.if_icmp .gt 7, 3) := dgX9_isFigure_0.2.2.2.2.2.2.2.2.2.2.2.2.2.2.2
theorem dgX9_isFigure_1 : decode cX9_isFigure 30 = .ok (.iconst 1, 1) ∧ decode cX9_isFigure 31 = .ok (.goto 4, 3) ∧ decode cX9_isFigure 34 = .ok (.iconst 0, 1) ∧ decode cX9_isFigure 35 = .ok (.ireturn, 1) := by decide +kernel
theorem dX9_isFigure_30 : decode cX9_isFigure 30 = .ok (.iconst 1, 1) := dgX9_isFigure_1.1
theorem dX9_isFigure_31 : decode cX9_isFigure 31 = .ok (.goto 4, 3) := dgX9_isFigure_1.2.1
theorem dX9_isFigure_34 : decode cX9_isFigure 34 = .ok (.iconst 0, 1) := dgX9_isFigure_1.2.2.1
theorem dX9_isFigure_35 : decode cX9_isFigure 35 = .ok (.ireturn, 1) := dgX9_isFigure_1.2.2.2
abbrev pX9_isFigure : List Nat := [0, 34, 35]
def bX9_isFigure_0 (cal : ab_F) : ab_K := o_iload 1 <| o_aload 0 <| o_getf 8 9 <| o_cmp (fun x y => decide (y ≤ x)) 1 <| o_aload 0 <| o_getf 8 8 <| o_iload 1 <| o_iald 0 <| o_push (.int 48) <| o_cmp (fun x y => decide (x < y)) 1 <| o_aload 0 <| o_getf 8 8 <| o_iload 1 <| o_iald 0 <| o_push (.int 57) <| o_cmp (fun x y => decide (y < x)) 1 <| o_push (.int 1) <| o_goto 2
def bX9_isFigure_1 (cal : ab_F) : ab_K := o_push (.int 0) <| o_goto 2
def bX9_isFigure_2 (cal : ab_F) : ab_K := o_ret (some .boolean)
def bX9_isFigure (cal : ab_F) : List ab_K := [bX9_isFigure_0 cal, bX9_isFigure_1 cal, bX9_isFigure_2 cal]
set_option maxRecDepth 100000 in
theorem sX9_isFigure_0 {G : ab_G} {xs : List Int32} {d : Nat} {cal : ab_F} (hcs : ab_CS G (ab_Z G xs) ab_Mf cal d) : ab_Sd G (ab_Z G xs) (d + 1) (ab_mY mX9_isFigure pX9_isFigure) 0 (bX9_isFigure_0 cal) :=
  sn_iload_n dX9_isFigure_0 rfl <| sn_aload_n dX9_isFigure_1 rfl <| sn_getf dX9_isFigure_2 rfl hinX9 (by decide) w_1000 <| sn_cmp_ge (tg := 34) dX9_isFigure_5 rfl rfl <| sn_aload_n dX9_isFigure_8 rfl <| sn_getf dX9_isFigure_9 rfl hinX9 (by decide) w_999 <| sn_iload_n dX9_isFigure_12 rfl <| sn_iald dX9_isFigure_13 rfl <| sn_bipush dX9_isFigure_14 rfl <| sn_cmp_lt (tg := 34) dX9_isFigure_16 rfl rfl <| sn_aload_n dX9_isFigure_19 rfl <| sn_getf dX9_isFigure_20 rfl hinX9 (by decide) w_999 <| sn_iload_n dX9_isFigure_23 rfl <| sn_iald dX9_isFigure_24 rfl <| sn_bipush dX9_isFigure_25 rfl <| sn_cmp_gt (tg := 34) dX9_isFigure_27 rfl rfl <| sn_iconst dX9_isFigure_30 rfl <| sn_goto (tg := 35) dX9_isFigure_31 rfl rfl
set_option maxRecDepth 100000 in
theorem sX9_isFigure_1 {G : ab_G} {xs : List Int32} {d : Nat} {cal : ab_F} (hcs : ab_CS G (ab_Z G xs) ab_Mf cal d) : ab_Sd G (ab_Z G xs) (d + 1) (ab_mY mX9_isFigure pX9_isFigure) 34 (bX9_isFigure_1 cal) :=
  sn_iconst dX9_isFigure_34 rfl <| sn_next rfl
set_option maxRecDepth 100000 in
theorem sX9_isFigure_2 {G : ab_G} {xs : List Int32} {d : Nat} {cal : ab_F} (hcs : ab_CS G (ab_Z G xs) ab_Mf cal d) : ab_Sd G (ab_Z G xs) (d + 1) (ab_mY mX9_isFigure pX9_isFigure) 35 (bX9_isFigure_2 cal) :=
  sn_ret dX9_isFigure_35 ab_ri_bool
theorem sX9_isFigure {G : ab_G} {xs : List Int32} {d : Nat} {cal : ab_F} (hcs : ab_CS G (ab_Z G xs) ab_Mf cal d) : ab_BS G (ab_Z G xs) (d + 1) (ab_mY mX9_isFigure pX9_isFigure) pX9_isFigure (bX9_isFigure cal) := ⟨sX9_isFigure_0 hcs, sX9_isFigure_1 hcs, sX9_isFigure_2 hcs, trivial⟩
theorem dgX9_go_0 : decode cX9_go 0 = .ok (.aload_n 0, 1) ∧ decode cX9_go 1 = .ok (.getfield 217, 3) ∧ decode cX9_go 4 = .ok (.aload_n 0, 1) ∧ decode cX9_go 5 = .ok (.getfield 214, 3) ∧ decode cX9_go 8 = .ok (.if_icmp .ge 30, 3) ∧ decode cX9_go 11 = .ok (.aload_n 0, 1) ∧ decode cX9_go 12 = .ok (.getfield 32, 3) ∧ decode cX9_go 15 = .ok (.aload_n 0, 1) ∧ decode cX9_go 16 = .ok (.getfield 217, 3) ∧ decode cX9_go 19 = .ok (.iaload, 1) ∧ decode cX9_go 20 = .ok (.bipush 32, 2) ∧ decode cX9_go 22 = .ok (.if_icmp .ne 16, 3) ∧ decode cX9_go 25 = .ok (.aload_n 0, 1) ∧ decode cX9_go 26 = .ok (.dup, 1) ∧ decode cX9_go 27 = .ok (.getfield 217, 3) ∧ decode cX9_go 30 = .ok (.iconst 1, 1) := by decide +kernel
theorem dX9_go_0 : decode cX9_go 0 = .ok (.aload_n 0, 1) := dgX9_go_0.1
theorem dX9_go_1 : decode cX9_go 1 = .ok (.getfield 217, 3) := dgX9_go_0.2.1
theorem dX9_go_4 : decode cX9_go 4 = .ok (.aload_n 0, 1) := dgX9_go_0.2.2.1
theorem dX9_go_5 : decode cX9_go 5 = .ok (.getfield 214, 3) := dgX9_go_0.2.2.2.1
theorem dX9_go_8 : decode cX9_go 8 = .ok (.if_icmp .ge 30, 3) := dgX9_go_0.2.2.2.2.1
theorem dX9_go_11 : decode cX9_go 11 = .ok (.aload_n 0, 1) := dgX9_go_0.2.2.2.2.2.1
theorem dX9_go_12 : decode cX9_go 12 = .ok (.getfield 32, 3) := dgX9_go_0.2.2.2.2.2.2.1
theorem dX9_go_15 : decode cX9_go 15 = .ok (.aload_n 0, 1) := dgX9_go_0.2.2.2.2.2.2.2.1
theorem dX9_go_16 : decode cX9_go 16 = .ok (.getfield 217, 3) := dgX9_go_0.2.2.2.2.2.2.2.2.1
theorem dX9_go_19 : decode cX9_go 19 = .ok (.iaload, 1) := dgX9_go_0.2.2.2.2.2.2.2.2.2.1
theorem dX9_go_20 : decode cX9_go 20 = .ok (.bipush 32, 2) := dgX9_go_0.2.2.2.2.2.2.2.2.2.2.1
theorem dX9_go_22 : decode cX9_go 22 = .ok (.if_icmp .ne 16, 3) := dgX9_go_0.2.2.2.2.2.2.2.2.2.2.2.1
theorem dX9_go_25 : decode cX9_go 25 = .ok (.aload_n 0, 1) := dgX9_go_0.2.2.2.2.2.2.2.2.2.2.2.2.1
theorem dX9_go_26 : decode cX9_go 26 = .ok (.dup, 1) := dgX9_go_0.2.2.2.2.2.2.2.2.2.2.2.2.2.1
theorem dX9_go_27 : decode cX9_go 27 = .ok (.getfield 217, 3) := dgX9_go_0.2.2.2.2.2.2.2.2.2.2.2.2.2.2.1
theorem dX9_go_30 : decode cX9_go 30 = .ok (.iconst 1, 1) := dgX9_go_0.2.2.2.2.2.2.2.2.2.2.2.2.2.2.2
theorem dgX9_go_1 : decode cX9_go 31 = .ok (.iadd, 1) ∧ decode cX9_go 32 = .ok (.putfield 217, 3) ∧ decode cX9_go 35 = .ok (.goto (-35), 3) ∧ decode cX9_go 38 = .ok (.aload_n 0, 1) ∧ decode cX9_go 39 = .ok (.aload_n 0, 1) ∧ decode cX9_go 40 = .ok (.getfield 217, 3) ∧ decode cX9_go 43 = .ok (.putfield 220, 3) ∧ decode cX9_go 46 = .ok (.aload_n 0, 1) ∧ decode cX9_go 47 = .ok (.getfield 220, 3) ∧ decode cX9_go 50 = .ok (.aload_n 0, 1) ∧ decode cX9_go 51 = .ok (.getfield 223, 3) ∧ decode cX9_go 54 = .ok (.if_icmp .ne 7, 3) ∧ decode cX9_go 57 = .ok (.iconst 1, 1) ∧ decode cX9_go 58 = .ok (.goto 4, 3) ∧ decode cX9_go 61 = .ok (.iconst 0, 1) ∧ decode cX9_go 62 = .ok (.istore_n 1, 1) := by decide +kernel
theorem dX9_go_31 : decode cX9_go 31 = .ok (.iadd, 1) := dgX9_go_1.1
theorem dX9_go_32 : decode cX9_go 32 = .ok (.putfield 217, 3) := dgX9_go_1.2.1
theorem dX9_go_35 : decode cX9_go 35 = .ok (.goto (-35), 3) := dgX9_go_1.2.2.1
theorem dX9_go_38 : decode cX9_go 38 = .ok (.aload_n 0, 1) := dgX9_go_1.2.2.2.1
theorem dX9_go_39 : decode cX9_go 39 = .ok (.aload_n 0, 1) := dgX9_go_1.2.2.2.2.1
theorem dX9_go_40 : decode cX9_go 40 = .ok (.getfield 217, 3) := dgX9_go_1.2.2.2.2.2.1
theorem dX9_go_43 : decode cX9_go 43 = .ok (.putfield 220, 3) := dgX9_go_1.2.2.2.2.2.2.1
theorem dX9_go_46 : decode cX9_go 46 = .ok (.aload_n 0, 1) := dgX9_go_1.2.2.2.2.2.2.2.1
theorem dX9_go_47 : decode cX9_go 47 = .ok (.getfield 220, 3) := dgX9_go_1.2.2.2.2.2.2.2.2.1
theorem dX9_go_50 : decode cX9_go 50 = .ok (.aload_n 0, 1) := dgX9_go_1.2.2.2.2.2.2.2.2.2.1
theorem dX9_go_51 : decode cX9_go 51 = .ok (.getfield 223, 3) := dgX9_go_1.2.2.2.2.2.2.2.2.2.2.1
theorem dX9_go_54 : decode cX9_go 54 = .ok (.if_icmp .ne 7, 3) := dgX9_go_1.2.2.2.2.2.2.2.2.2.2.2.1
theorem dX9_go_57 : decode cX9_go 57 = .ok (.iconst 1, 1) := dgX9_go_1.2.2.2.2.2.2.2.2.2.2.2.2.1
theorem dX9_go_58 : decode cX9_go 58 = .ok (.goto 4, 3) := dgX9_go_1.2.2.2.2.2.2.2.2.2.2.2.2.2.1
theorem dX9_go_61 : decode cX9_go 61 = .ok (.iconst 0, 1) := dgX9_go_1.2.2.2.2.2.2.2.2.2.2.2.2.2.2.1
theorem dX9_go_62 : decode cX9_go 62 = .ok (.istore_n 1, 1) := dgX9_go_1.2.2.2.2.2.2.2.2.2.2.2.2.2.2.2
theorem dgX9_go_2 : decode cX9_go 63 = .ok (.aload_n 0, 1) ∧ decode cX9_go 64 = .ok (.getfield 220, 3) ∧ decode cX9_go 67 = .ok (.aload_n 0, 1) ∧ decode cX9_go 68 = .ok (.getfield 214, 3) ∧ decode cX9_go 71 = .ok (.if_icmp .ne 11, 3) ∧ decode cX9_go 74 = .ok (.aload_n 0, 1) ∧ decode cX9_go 75 = .ok (.iconst 0, 1) ∧ decode cX9_go 76 = .ok (.putfield 226, 3) ∧ decode cX9_go 79 = .ok (.goto 224, 3) ∧ decode cX9_go 82 = .ok (.aload_n 0, 1) ∧ decode cX9_go 83 = .ok (.aload_n 0, 1) ∧ decode cX9_go 84 = .ok (.getfield 220, 3) ∧ decode cX9_go 87 = .ok (.invokevirtual 229, 3) ∧ decode cX9_go 90 = .ok (.ifCond .eq 64, 3) ∧ decode cX9_go 93 = .ok (.aload_n 0, 1) ∧ decode cX9_go 94 = .ok (.aload_n 0, 1) := by decide +kernel
theorem dX9_go_63 : decode cX9_go 63 = .ok (.aload_n 0, 1) := dgX9_go_2.1
theorem dX9_go_64 : decode cX9_go 64 = .ok (.getfield 220, 3) := dgX9_go_2.2.1
theorem dX9_go_67 : decode cX9_go 67 = .ok (.aload_n 0, 1) := dgX9_go_2.2.2.1
theorem dX9_go_68 : decode cX9_go 68 = .ok (.getfield 214, 3) := dgX9_go_2.2.2.2.1
theorem dX9_go_71 : decode cX9_go 71 = .ok (.if_icmp .ne 11, 3) := dgX9_go_2.2.2.2.2.1
theorem dX9_go_74 : decode cX9_go 74 = .ok (.aload_n 0, 1) := dgX9_go_2.2.2.2.2.2.1
theorem dX9_go_75 : decode cX9_go 75 = .ok (.iconst 0, 1) := dgX9_go_2.2.2.2.2.2.2.1
theorem dX9_go_76 : decode cX9_go 76 = .ok (.putfield 226, 3) := dgX9_go_2.2.2.2.2.2.2.2.1
theorem dX9_go_79 : decode cX9_go 79 = .ok (.goto 224, 3) := dgX9_go_2.2.2.2.2.2.2.2.2.1
theorem dX9_go_82 : decode cX9_go 82 = .ok (.aload_n 0, 1) := dgX9_go_2.2.2.2.2.2.2.2.2.2.1
theorem dX9_go_83 : decode cX9_go 83 = .ok (.aload_n 0, 1) := dgX9_go_2.2.2.2.2.2.2.2.2.2.2.1
theorem dX9_go_84 : decode cX9_go 84 = .ok (.getfield 220, 3) := dgX9_go_2.2.2.2.2.2.2.2.2.2.2.2.1
theorem dX9_go_87 : decode cX9_go 87 = .ok (.invokevirtual 229, 3) := dgX9_go_2.2.2.2.2.2.2.2.2.2.2.2.2.1
theorem dX9_go_90 : decode cX9_go 90 = .ok (.ifCond .eq 64, 3) := dgX9_go_2.2.2.2.2.2.2.2.2.2.2.2.2.2.1
theorem dX9_go_93 : decode cX9_go 93 = .ok (.aload_n 0, 1) := dgX9_go_2.2.2.2.2.2.2.2.2.2.2.2.2.2.2.1
theorem dX9_go_94 : decode cX9_go 94 = .ok (.aload_n 0, 1) := dgX9_go_2.2.2.2.2.2.2.2.2.2.2.2.2.2.2.2
theorem dgX9_go_3 : decode cX9_go 95 = .ok (.getfield 217, 3) ∧ decode cX9_go 98 = .ok (.invokevirtual 229, 3) ∧ decode cX9_go 101 = .ok (.ifCond .eq 16, 3) ∧ decode cX9_go 104 = .ok (.aload_n 0, 1) ∧ decode cX9_go 105 = .ok (.dup, 1) ∧ decode cX9_go 106 = .ok (.getfield 217, 3) ∧ decode cX9_go 109 = .ok (.iconst 1, 1) ∧ decode cX9_go 110 = .ok (.iadd, 1) ∧ decode cX9_go 111 = .ok (.putfield 217, 3) ∧ decode cX9_go 114 = .ok (.goto (-21), 3) ∧ decode cX9_go 117 = .ok (.aload_n 0, 1) ∧ decode cX9_go 118 = .ok (.iload_n 1, 1) ∧ decode cX9_go 119 = .ok (.ifCond .eq 7, 3) ∧ decode cX9_go 122 = .ok (.iconst 4, 1) ∧ decode cX9_go 123 = .ok (.goto 4, 3) ∧ decode cX9_go 126 = .ok (.iconst 1, 1) := by decide +kernel
theorem dX9_go_95 : decode cX9_go 95 = .ok (.getfield 217, 3) := dgX9_go_3.1
theorem dX9_go_98 : decode cX9_go 98 = .ok (.invokevirtual 229, 3) := dgX9_go_3.2.1
theorem dX9_go_101 : decode cX9_go 101 = .ok (.ifCond .eq 16, 3) := dgX9_go_3.2.2.1
theorem dX9_go_104 : decode cX9_go 104 = .ok (.aload_n 0, 1) := dgX9_go_3.2.2.2.1
theorem dX9_go_105 : decode cX9_go 105 = .ok (.dup, 1) := dgX9_go_3.2.2.2.2.1
theorem dX9_go_106 : decode cX9_go 106 = .ok (.getfield 217, 3) := dgX9_go_3.2.2.2.2.2.1
theorem dX9_go_109 : decode cX9_go 109 = .ok (.iconst 1, 1) := dgX9_go_3.2.2.2.2.2.2.1
theorem dX9_go_110 : decode cX9_go 110 = .ok (.iadd, 1) := dgX9_go_3.2.2.2.2.2.2.2.1
theorem dX9_go_111 : decode cX9_go 111 = .ok (.putfield 217, 3) := dgX9_go_3.2.2.2.2.2.2.2.2.1
theorem dX9_go_114 : decode cX9_go 114 = .ok (.goto (-21), 3) := dgX9_go_3.2.2.2.2.2.2.2.2.2.1
theorem dX9_go_117 : decode cX9_go 117 = .ok (.aload_n 0, 1) := dgX9_go_3.2.2.2.2.2.2.2.2.2.2.1
theorem dX9_go_118 : decode cX9_go 118 = .ok (.iload_n 1, 1) := dgX9_go_3.2.2.2.2.2.2.2.2.2.2.2.1
theorem dX9_go_119 : decode cX9_go 119 = .ok (.ifCond .eq 7, 3) := dgX9_go_3.2.2.2.2.2.2.2.2.2.2.2.2.1
theorem dX9_go_122 : decode cX9_go 122 = .ok (.iconst 4, 1) := dgX9_go_3.2.2.2.2.2.2.2.2.2.2.2.2.2.1
theorem dX9_go_123 : decode cX9_go 123 = .ok (.goto 4, 3) := dgX9_go_3.2.2.2.2.2.2.2.2.2.2.2.2.2.2.1
theorem dX9_go_126 : decode cX9_go 126 = .ok (.iconst 1, 1) := dgX9_go_3.2.2.2.2.2.2.2.2.2.2.2.2.2.2.2
theorem dgX9_go_4 : decode cX9_go 127 = .ok (.putfield 226, 3) ∧ decode cX9_go 130 = .ok (.aload_n 0, 1) ∧ decode cX9_go 131 = .ok (.aload_n 0, 1) ∧ decode cX9_go 132 = .ok (.getfield 32, 3) ∧ decode cX9_go 135 = .ok (.aload_n 0, 1) ∧ decode cX9_go 136 = .ok (.getfield 220, 3) ∧ decode cX9_go 139 = .ok (.iaload, 1) ∧ decode cX9_go 140 = .ok (.putfield 232, 3) ∧ decode cX9_go 143 = .ok (.aload_n 0, 1) ∧ decode cX9_go 144 = .ok (.aload_n 0, 1) ∧ decode cX9_go 145 = .ok (.getfield 217, 3) ∧ decode cX9_go 148 = .ok (.putfield 223, 3) ∧ decode cX9_go 151 = .ok (.goto 152, 3) ∧ decode cX9_go 154 = .ok (.aload_n 0, 1) ∧ decode cX9_go 155 = .ok (.aload_n 0, 1) ∧ decode cX9_go 156 = .ok (.getfield 220, 3) := by decide +kernel
theorem dX9_go_127 : decode cX9_go 127 = .ok (.putfield 226, 3) := dgX9_go_4.1
theorem dX9_go_130 : decode cX9_go 130 = .ok (.aload_n 0, 1) := dgX9_go_4.2.1
theorem dX9_go_131 : decode cX9_go 131 = .ok (.aload_n 0, 1) := dgX9_go_4.2.2.1
theorem dX9_go_132 : decode cX9_go 132 = .ok (.getfield 32, 3) := dgX9_go_4.2.2.2.1
theorem dX9_go_135 : decode cX9_go 135 = .ok (.aload_n 0, 1) := dgX9_go_4.2.2.2.2.1
theorem dX9_go_136 : decode cX9_go 136 = .ok (.getfield 220, 3) := dgX9_go_4.2.2.2.2.2.1
theorem dX9_go_139 : decode cX9_go 139 = .ok (.iaload, 1) := dgX9_go_4.2.2.2.2.2.2.1
theorem dX9_go_140 : decode cX9_go 140 = .ok (.putfield 232, 3) := dgX9_go_4.2.2.2.2.2.2.2.1
theorem dX9_go_143 : decode cX9_go 143 = .ok (.aload_n 0, 1) := dgX9_go_4.2.2.2.2.2.2.2.2.1
theorem dX9_go_144 : decode cX9_go 144 = .ok (.aload_n 0, 1) := dgX9_go_4.2.2.2.2.2.2.2.2.2.1
theorem dX9_go_145 : decode cX9_go 145 = .ok (.getfield 217, 3) := dgX9_go_4.2.2.2.2.2.2.2.2.2.2.1
theorem dX9_go_148 : decode cX9_go 148 = .ok (.putfield 223, 3) := dgX9_go_4.2.2.2.2.2.2.2.2.2.2.2.1
theorem dX9_go_151 : decode cX9_go 151 = .ok (.goto 152, 3) := dgX9_go_4.2.2.2.2.2.2.2.2.2.2.2.2.1
theorem dX9_go_154 : decode cX9_go 154 = .ok (.aload_n 0, 1) := dgX9_go_4.2.2.2.2.2.2.2.2.2.2.2.2.2.1
theorem dX9_go_155 : decode cX9_go 155 = .ok (.aload_n 0, 1) := dgX9_go_4.2.2.2.2.2.2.2.2.2.2.2.2.2.2.1
theorem dX9_go_156 : decode cX9_go 156 = .ok (.getfield 220, 3) := dgX9_go_4.2.2.2.2.2.2.2.2.2.2.2.2.2.2.2
theorem dgX9_go_5 : decode cX9_go 159 = .ok (.invokevirtual 235, 3) ∧ decode cX9_go 162 = .ok (.ifCond .eq 113, 3) ∧ decode cX9_go 165 = .ok (.aload_n 0, 1) ∧ decode cX9_go 166 = .ok (.iconst 0, 1) ∧ decode cX9_go 167 = .ok (.putfield 232, 3) ∧ decode cX9_go 170 = .ok (.aload_n 0, 1) ∧ decode cX9_go 171 = .ok (.aload_n 0, 1) ∧ decode cX9_go 172 = .ok (.getfield 217, 3) ∧ decode cX9_go 175 = .ok (.invokevirtual 235, 3) ∧ decode cX9_go 178 = .ok (.ifCond .eq 60, 3) ∧ decode cX9_go 181 = .ok (.aload_n 0, 1) ∧ decode cX9_go 182 = .ok (.aload_n 0, 1) ∧ decode cX9_go 183 = .ok (.getfield 217, 3) ∧ decode cX9_go 186 = .ok (.aload_n 0, 1) ∧ decode cX9_go 187 = .ok (.getfield 220, 3) ∧ decode cX9_go 190 = .ok (.isub, 1) := by decide +kernel
theorem dX9_go_159 : decode cX9_go 159 = .ok (.invokevirtual 235, 3) := dgX9_go_5.1
theorem dX9_go_162 : decode cX9_go 162 = .ok (.ifCond .eq 113, 3) := dgX9_go_5.2.1
theorem dX9_go_165 : decode cX9_go 165 = .ok (.aload_n 0, 1) := dgX9_go_5.2.2.1
theorem dX9_go_166 : decode cX9_go 166 = .ok (.iconst 0, 1) := dgX9_go_5.2.2.2.1
theorem dX9_go_167 : decode cX9_go 167 = .ok (.putfield 232, 3) := dgX9_go_5.2.2.2.2.1
theorem dX9_go_170 : decode cX9_go 170 = .ok (.aload_n 0, 1) := dgX9_go_5.2.2.2.2.2.1
theorem dX9_go_171 : decode cX9_go 171 = .ok (.aload_n 0, 1) := dgX9_go_5.2.2.2.2.2.2.1
theorem dX9_go_172 : decode cX9_go 172 = .ok (.getfield 217, 3) := dgX9_go_5.2.2.2.2.2.2.2.1
theorem dX9_go_175 : decode cX9_go 175 = .ok (.invokevirtual 235, 3) := dgX9_go_5.2.2.2.2.2.2.2.2.1
theorem dX9_go_178 : decode cX9_go 178 = .ok (.ifCond .eq 60, 3) := dgX9_go_5.2.2.2.2.2.2.2.2.2.1
theorem dX9_go_181 : decode cX9_go 181 = .ok (.aload_n 0, 1) := dgX9_go_5.2.2.2.2.2.2.2.2.2.2.1
theorem dX9_go_182 : decode cX9_go 182 = .ok (.aload_n 0, 1) := dgX9_go_5.2.2.2.2.2.2.2.2.2.2.2.1
theorem dX9_go_183 : decode cX9_go 183 = .ok (.getfield 217, 3) := dgX9_go_5.2.2.2.2.2.2.2.2.2.2.2.2.1
theorem dX9_go_186 : decode cX9_go 186 = .ok (.aload_n 0, 1) := dgX9_go_5.2.2.2.2.2.2.2.2.2.2.2.2.2.1
theorem dX9_go_187 : decode cX9_go 187 = .ok (.getfield 220, 3) := dgX9_go_5.2.2.2.2.2.2.2.2.2.2.2.2.2.2.1
theorem dX9_go_190 : decode cX9_go 190 = .ok (.isub, 1) := dgX9_go_5.2.2.2.2.2.2.2.2.2.2.2.2.2.2.2
theorem dgX9_go_6 : decode cX9_go 191 = .ok (.iconst 4, 1) ∧ decode cX9_go 192 = .ok (.if_icmp .ge 26, 3) ∧ decode cX9_go 195 = .ok (.bipush 10, 2) ∧ decode cX9_go 197 = .ok (.aload_n 0, 1) ∧ decode cX9_go 198 = .ok (.getfield 232, 3) ∧ decode cX9_go 201 = .ok (.imul, 1) ∧ decode cX9_go 202 = .ok (.aload_n 0, 1) ∧ decode cX9_go 203 = .ok (.getfield 32, 3) ∧ decode cX9_go 206 = .ok (.aload_n 0, 1) ∧ decode cX9_go 207 = .ok (.getfield 217, 3) ∧ decode cX9_go 210 = .ok (.iaload, 1) ∧ decode cX9_go 211 = .ok (.iadd, 1) ∧ decode cX9_go 212 = .ok (.bipush 48, 2) ∧ decode cX9_go 214 = .ok (.isub, 1) ∧ decode cX9_go 215 = .ok (.goto 7, 3) ∧ decode cX9_go 218 = .ok (.aload_n 0, 1) := by decide +kernel
theorem dX9_go_191 : decode cX9_go 191 = .ok (.iconst 4, 1) := dgX9_go_6.1
theorem dX9_go_192 : decode cX9_go 192 = .ok (.if_icmp .ge 26, 3) := dgX9_go_6.2.1
theorem dX9_go_195 : decode cX9_go 195 = .ok (.bipush 10, 2) := dgX9_go_6.2.2.1
theorem dX9_go_197 : decode cX9_go 197 = .ok (.aload_n 0, 1) := dgX9_go_6.2.2.2.1
theorem dX9_go_198 : decode cX9_go 198 = .ok (.getfield 232, 3) := dgX9_go_6.2.2.2.2.1
theorem dX9_go_201 : decode cX9_go 201 = .ok (.imul, 1) := dgX9_go_6.2.2.2.2.2.1
theorem dX9_go_202 : decode cX9_go 202 = .ok (.aload_n 0, 1) := dgX9_go_6.2.2.2.2.2.2.1
theorem dX9_go_203 : decode cX9_go 203 = .ok (.getfield 32, 3) := dgX9_go_6.2.2.2.2.2.2.2.1
theorem dX9_go_206 : decode cX9_go 206 = .ok (.aload_n 0, 1) := dgX9_go_6.2.2.2.2.2.2.2.2.1
theorem dX9_go_207 : decode cX9_go 207 = .ok (.getfield 217, 3) := dgX9_go_6.2.2.2.2.2.2.2.2.2.1
theorem dX9_go_210 : decode cX9_go 210 = .ok (.iaload, 1) := dgX9_go_6.2.2.2.2.2.2.2.2.2.2.1
theorem dX9_go_211 : decode cX9_go 211 = .ok (.iadd, 1) := dgX9_go_6.2.2.2.2.2.2.2.2.2.2.2.1
theorem dX9_go_212 : decode cX9_go 212 = .ok (.bipush 48, 2) := dgX9_go_6.2.2.2.2.2.2.2.2.2.2.2.2.1
theorem dX9_go_214 : decode cX9_go 214 = .ok (.isub, 1) := dgX9_go_6.2.2.2.2.2.2.2.2.2.2.2.2.2.1
theorem dX9_go_215 : decode cX9_go 215 = .ok (.goto 7, 3) := dgX9_go_6.2.2.2.2.2.2.2.2.2.2.2.2.2.2.1
theorem dX9_go_218 : decode cX9_go 218 = .ok (.aload_n 0, 1) := dgX9_go_6.2.2.2.2.2.2.2.2.2.2.2.2.2.2.2
theorem dgX9_go_7 : decode cX9_go 219 = .ok (.getfield 232, 3) ∧ decode cX9_go 222 = .ok (.putfield 232, 3) ∧ decode cX9_go 225 = .ok (.aload_n 0, 1) ∧ decode cX9_go 226 = .ok (.dup, 1) ∧ decode cX9_go 227 = .ok (.getfield 217, 3) ∧ decode cX9_go 230 = .ok (.iconst 1, 1) ∧ decode cX9_go 231 = .ok (.iadd, 1) ∧ decode cX9_go 232 = .ok (.putfield 217, 3) ∧ decode cX9_go 235 = .ok (.goto (-65), 3) ∧ decode cX9_go 238 = .ok (.aload_n 0, 1) ∧ decode cX9_go 239 = .ok (.iload_n 1, 1) ∧ decode cX9_go 240 = .ok (.ifCond .ne 16, 3) ∧ decode cX9_go 243 = .ok (.aload_n 0, 1) ∧ decode cX9_go 244 = .ok (.getfield 217, 3) ∧ decode cX9_go 247 = .ok (.aload_n 0, 1) ∧ decode cX9_go 248 = .ok (.getfield 220, 3) := by decide +kernel
theorem dX9_go_219 : decode cX9_go 219 = .ok (.getfield 232, 3) := dgX9_go_7.1
theorem dX9_go_222 : decode cX9_go 222 = .ok (.putfield 232, 3) := dgX9_go_7.2.1
theorem dX9_go_225 : decode cX9_go 225 = .ok (.aload_n 0, 1) := dgX9_go_7.2.2.1
theorem dX9_go_226 : decode cX9_go 226 = .ok (.dup, 1) := dgX9_go_7.2.2.2.1
theorem dX9_go_227 : decode cX9_go 227 = .ok (.getfield 217, 3) := dgX9_go_7.2.2.2.2.1
theorem dX9_go_230 : decode cX9_go 230 = .ok (.iconst 1, 1) := dgX9_go_7.2.2.2.2.2.1
theorem dX9_go_231 : decode cX9_go 231 = .ok (.iadd, 1) := dgX9_go_7.2.2.2.2.2.2.1
theorem dX9_go_232 : decode cX9_go 232 = .ok (.putfield 217, 3) := dgX9_go_7.2.2.2.2.2.2.2.1
theorem dX9_go_235 : decode cX9_go 235 = .ok (.goto (-65), 3) := dgX9_go_7.2.2.2.2.2.2.2.2.1
theorem dX9_go_238 : decode cX9_go 238 = .ok (.aload_n 0, 1) := dgX9_go_7.2.2.2.2.2.2.2.2.2.1
theorem dX9_go_239 : decode cX9_go 239 = .ok (.iload_n 1, 1) := dgX9_go_7.2.2.2.2.2.2.2.2.2.2.1
theorem dX9_go_240 : decode cX9_go 240 = .ok (.ifCond .ne 16, 3) := dgX9_go_7.2.2.2.2.2.2.2.2.2.2.2.1
theorem dX9_go_243 : decode cX9_go 243 = .ok (.aload_n 0, 1) := dgX9_go_7.2.2.2.2.2.2.2.2.2.2.2.2.1
theorem dX9_go_244 : decode cX9_go 244 = .ok (.getfield 217, 3) := dgX9_go_7.2.2.2.2.2.2.2.2.2.2.2.2.2.1
theorem dX9_go_247 : decode cX9_go 247 = .ok (.aload_n 0, 1) := dgX9_go_7.2.2.2.2.2.2.2.2.2.2.2.2.2.2.1
theorem dX9_go_248 : decode cX9_go 248 = .ok (.getfield 220, 3) := dgX9_go_7.2.2.2.2.2.2.2.2.2.2.2.2.2.2.2
theorem dgX9_go_8 : decode cX9_go 251 = .ok (.isub, 1) ∧ decode cX9_go 252 = .ok (.iconst 4, 1) ∧ decode cX9_go 253 = .ok (.if_icmp .le 7, 3) ∧ decode cX9_go 256 = .ok (.iconst 4, 1) ∧ decode cX9_go 257 = .ok (.goto 4, 3) ∧ decode cX9_go 260 = .ok (.iconst 2, 1) ∧ decode cX9_go 261 = .ok (.putfield 226, 3) ∧ decode cX9_go 264 = .ok (.aload_n 0, 1) ∧ decode cX9_go 265 = .ok (.aload_n 0, 1) ∧ decode cX9_go 266 = .ok (.getfield 217, 3) ∧ decode cX9_go 269 = .ok (.putfield 223, 3) ∧ decode cX9_go 272 = .ok (.goto 31, 3) ∧ decode cX9_go 275 = .ok (.aload_n 0, 1) ∧ decode cX9_go 276 = .ok (.iconst 3, 1) ∧ decode cX9_go 277 = .ok (.putfield 226, 3) ∧ decode cX9_go 280 = .ok (.aload_n 0, 1) := by decide +kernel
theorem dX9_go_251 : decode cX9_go 251 = .ok (.isub, 1) := dgX9_go_8.1
theorem dX9_go_252 : decode cX9_go 252 = .ok (.iconst 4, 1) := dgX9_go_8.2.1
theorem dX9_go_253 : decode cX9_go 253 = .ok (.if_icmp .le 7, 3) := dgX9_go_8.2.2.1
theorem dX9_go_256 : decode cX9_go 256 = .ok (.iconst 4, 1) := dgX9_go_8.2.2.2.1
theorem dX9_go_257 : decode cX9_go 257 = .ok (.goto 4, 3) := dgX9_go_8.2.2.2.2.1
theorem dX9_go_260 : decode cX9_go 260 = .ok (.iconst 2, 1) := dgX9_go_8.2.2.2.2.2.1
theorem dX9_go_261 : decode cX9_go 261 = .ok (.putfield 226, 3) := dgX9_go_8.2.2.2.2.2.2.1
theorem dX9_go_264 : decode cX9_go 264 = .ok (.aload_n 0, 1) := dgX9_go_8.2.2.2.2.2.2.2.1
theorem dX9_go_265 : decode cX9_go 265 = .ok (.aload_n 0, 1) := dgX9_go_8.2.2.2.2.2.2.2.2.1
theorem dX9_go_266 : decode cX9_go 266 = .ok (.getfield 217, 3) := dgX9_go_8.2.2.2.2.2.2.2.2.2.1
theorem dX9_go_269 : decode cX9_go 269 = .ok (.putfield 223, 3) := dgX9_go_8.2.2.2.2.2.2.2.2.2.2.1
theorem dX9_go_272 : decode cX9_go 272 = .ok (.goto 31, 3) := dgX9_go_8.2.2.2.2.2.2.2.2.2.2.2.1
theorem dX9_go_275 : decode cX9_go 275 = .ok (.aload_n 0, 1) := dgX9_go_8.2.2.2.2.2.2.2.2.2.2.2.2.1
theorem dX9_go_276 : decode cX9_go 276 = .ok (.iconst 3, 1) := dgX9_go_8.2.2.2.2.2.2.2.2.2.2.2.2.2.1
theorem dX9_go_277 : decode cX9_go 277 = .ok (.putfield 226, 3) := dgX9_go_8.2.2.2.2.2.2.2.2.2.2.2.2.2.2.1
theorem dX9_go_280 : decode cX9_go 280 = .ok (.aload_n 0, 1) := dgX9_go_8.2.2.2.2.2.2.2.2.2.2.2.2.2.2.2
theorem dgX9_go_9 : decode cX9_go 281 = .ok (.aload_n 0, 1) ∧ decode cX9_go 282 = .ok (.getfield 32, 3) ∧ decode cX9_go 285 = .ok (.aload_n 0, 1) ∧ decode cX9_go 286 = .ok (.getfield 220, 3) ∧ decode cX9_go 289 = .ok (.iaload, 1) ∧ decode cX9_go 290 = .ok (.putfield 232, 3) ∧ decode cX9_go 293 = .ok (.aload_n 0, 1) ∧ decode cX9_go 294 = .ok (.dup, 1) ∧ decode cX9_go 295 = .ok (.getfield 217, 3) ∧ decode cX9_go 298 = .ok (.iconst 1, 1) ∧ decode cX9_go 299 = .ok (.iadd, 1) ∧ decode cX9_go 300 = .ok (.putfield 217, 3) ∧ decode cX9_go 303 = .ok (.return_, 1) := by decide +kernel
theorem dX9_go_281 : decode cX9_go 281 = .ok (.aload_n 0, 1) := dgX9_go_9.1
theorem dX9_go_282 : decode cX9_go 282 = .ok (.getfield 32, 3) := dgX9_go_9.2.1
theorem dX9_go_285 : decode cX9_go 285 = .ok (.aload_n 0, 1) := dgX9_go_9.2.2.1
theorem dX9_go_286 : decode cX9_go 286 = .ok (.getfield 220, 3) := dgX9_go_9.2.2.2.1
theorem dX9_go_289 : decode cX9_go 289 = .ok (.iaload, 1) := dgX9_go_9.2.2.2.2.1
theorem dX9_go_290 : decode cX9_go 290 = .ok (.putfield 232, 3) := dgX9_go_9.2.2.2.2.2.1
theorem dX9_go_293 : decode cX9_go 293 = .ok (.aload_n 0, 1) := dgX9_go_9.2.2.2.2.2.2.1
theorem dX9_go_294 : decode cX9_go 294 = .ok (.dup, 1) := dgX9_go_9.2.2.2.2.2.2.2.1
theorem dX9_go_295 : decode cX9_go 295 = .ok (.getfield 217, 3) := dgX9_go_9.2.2.2.2.2.2.2.2.1
theorem dX9_go_298 : decode cX9_go 298 = .ok (.iconst 1, 1) := dgX9_go_9.2.2.2.2.2.2.2.2.2.1
theorem dX9_go_299 : decode cX9_go 299 = .ok (.iadd, 1) := dgX9_go_9.2.2.2.2.2.2.2.2.2.2.1
theorem dX9_go_300 : decode cX9_go 300 = .ok (.putfield 217, 3) := dgX9_go_9.2.2.2.2.2.2.2.2.2.2.2.1
theorem dX9_go_303 : decode cX9_go 303 = .ok (.return_, 1) := dgX9_go_9.2.2.2.2.2.2.2.2.2.2.2.2
abbrev pX9_go : List Nat := [0, 38, 61, 62, 82, 93, 117, 126, 127, 154, 170, 218, 222, 238, 256, 260, 261, 275, 303]
def bX9_go_0 (cal : ab_F) : ab_K := o_aload 0 <| o_getf 8 10 <| o_aload 0 <| o_getf 8 9 <| o_cmp (fun x y => decide (y ≤ x)) 1 <| o_aload 0 <| o_getf 8 8 <| o_aload 0 <| o_getf 8 10 <| o_iald 0 <| o_push (.int 32) <| o_cmp (fun x y => decide (¬ x = y)) 1 <| o_aload 0 <| o_dup <| o_getf 8 10 <| o_push (.int 1) <| o_bin (fun x y => x + y) <| o_putI 8 10 <| o_goto 0
def bX9_go_1 (cal : ab_F) : ab_K := o_aload 0 <| o_aload 0 <| o_getf 8 10 <| o_putI 8 11 <| o_aload 0 <| o_getf 8 11 <| o_aload 0 <| o_getf 8 14 <| o_cmp (fun x y => decide (¬ x = y)) 2 <| o_push (.int 1) <| o_goto 3
def bX9_go_2 (cal : ab_F) : ab_K := o_push (.int 0) <| o_goto 3
def bX9_go_3 (cal : ab_F) : ab_K := o_istore 1 <| o_aload 0 <| o_getf 8 11 <| o_aload 0 <| o_getf 8 9 <| o_cmp (fun x y => decide (¬ x = y)) 4 <| o_aload 0 <| o_push (.int 0) <| o_putI 8 12 <| o_goto 18
def bX9_go_4 (cal : ab_F) : ab_K := o_aload 0 <| o_aload 0 <| o_getf 8 11 <| o_callV cal 189 1 8 <| o_if (fun x => decide (x = 0)) 9 <| o_goto 5
def bX9_go_5 (cal : ab_F) : ab_K := o_aload 0 <| o_aload 0 <| o_getf 8 10 <| o_callV cal 189 1 8 <| o_if (fun x => decide (x = 0)) 6 <| o_aload 0 <| o_dup <| o_getf 8 10 <| o_push (.int 1) <| o_bin (fun x y => x + y) <| o_putI 8 10 <| o_goto 5
def bX9_go_6 (cal : ab_F) : ab_K := o_aload 0 <| o_iload 1 <| o_if (fun x => decide (x = 0)) 7 <| o_push (.int 4) <| o_goto 8
def bX9_go_7 (cal : ab_F) : ab_K := o_push (.int 1) <| o_goto 8
def bX9_go_8 (cal : ab_F) : ab_K := o_putI 8 12 <| o_aload 0 <| o_aload 0 <| o_getf 8 8 <| o_aload 0 <| o_getf 8 11 <| o_iald 0 <| o_putI 8 13 <| o_aload 0 <| o_aload 0 <| o_getf 8 10 <| o_putI 8 14 <| o_goto 18
def bX9_go_9 (cal : ab_F) : ab_K := o_aload 0 <| o_aload 0 <| o_getf 8 11 <| o_callV cal 190 1 8 <| o_if (fun x => decide (x = 0)) 17 <| o_aload 0 <| o_push (.int 0) <| o_putI 8 13 <| o_goto 10
def bX9_go_10 (cal : ab_F) : ab_K := o_aload 0 <| o_aload 0 <| o_getf 8 10 <| o_callV cal 190 1 8 <| o_if (fun x => decide (x = 0)) 13 <| o_aload 0 <| o_aload 0 <| o_getf 8 10 <| o_aload 0 <| o_getf 8 11 <| o_bin (fun x y => x - y) <| o_push (.int 4) <| o_cmp (fun x y => decide (y ≤ x)) 11 <| o_push (.int 10) <| o_aload 0 <| o_getf 8 13 <| o_bin (fun x y => x * y) <| o_aload 0 <| o_getf 8 8 <| o_aload 0 <| o_getf 8 10 <| o_iald 0 <| o_bin (fun x y => x + y) <| o_push (.int 48) <| o_bin (fun x y => x - y) <| o_goto 12
def bX9_go_11 (cal : ab_F) : ab_K := o_aload 0 <| o_getf 8 13 <| o_goto 12
def bX9_go_12 (cal : ab_F) : ab_K := o_putI 8 13 <| o_aload 0 <| o_dup <| o_getf 8 10 <| o_push (.int 1) <| o_bin (fun x y => x + y) <| o_putI 8 10 <| o_goto 10
def bX9_go_13 (cal : ab_F) : ab_K := o_aload 0 <| o_iload 1 <| o_if (fun x => decide (¬ x = 0)) 14 <| o_aload 0 <| o_getf 8 10 <| o_aload 0 <| o_getf 8 11 <| o_bin (fun x y => x - y) <| o_push (.int 4) <| o_cmp (fun x y => decide (x ≤ y)) 15 <| o_goto 14
def bX9_go_14 (cal : ab_F) : ab_K := o_push (.int 4) <| o_goto 16
def bX9_go_15 (cal : ab_F) : ab_K := o_push (.int 2) <| o_goto 16
def bX9_go_16 (cal : ab_F) : ab_K := o_putI 8 12 <| o_aload 0 <| o_aload 0 <| o_getf 8 10 <| o_putI 8 14 <| o_goto 18
def bX9_go_17 (cal : ab_F) : ab_K := o_aload 0 <| o_push (.int 3) <| o_putI 8 12 <| o_aload 0 <| o_aload 0 <| o_getf 8 8 <| o_aload 0 <| o_getf 8 11 <| o_iald 0 <| o_putI 8 13 <| o_aload 0 <| o_dup <| o_getf 8 10 <| o_push (.int 1) <| o_bin (fun x y => x + y) <| o_putI 8 10 <| o_goto 18
def bX9_go_18 (cal : ab_F) : ab_K := o_ret none
def bX9_go (cal : ab_F) : List ab_K := [bX9_go_0 cal, bX9_go_1 cal, bX9_go_2 cal, bX9_go_3 cal, bX9_go_4 cal, bX9_go_5 cal, bX9_go_6 cal, bX9_go_7 cal, bX9_go_8 cal, bX9_go_9 cal, bX9_go_10 cal, bX9_go_11 cal, bX9_go_12 cal, bX9_go_13 cal, bX9_go_14 cal, bX9_go_15 cal, bX9_go_16 cal, bX9_go_17 cal, bX9_go_18 cal]
set_option maxRecDepth 100000 in
theorem sX9_go_0 {G : ab_G} {xs : List Int32} {d : Nat} {cal : ab_F} (hcs : ab_CS G (ab_Z G xs) ab_Mf cal d) : ab_Sd G (ab_Z G xs) (d + 1) (ab_mY mX9_go pX9_go) 0 (bX9_go_0 cal) :=
  sn_aload_n dX9_go_0 rfl <| sn_getf dX9_go_1 rfl hinX9 (by decide) w_1001 <| sn_aload_n dX9_go_4 rfl <| sn_getf dX9_go_5 rfl hinX9 (by decide) w_1000 <| sn_cmp_ge (tg := 38) dX9_go_8 rfl rfl <| sn_aload_n dX9_go_11 rfl <| sn_getf dX9_go_12 rfl hinX9 (by decide) w_999 <| sn_aload_n dX9_go_15 rfl <| sn_getf dX9_go_16 rfl hinX9 (by decide) w_1001 <| sn_iald dX9_go_19 rfl <| sn_bipush dX9_go_20 rfl <| sn_cmp_ne (tg := 38) dX9_go_22 rfl rfl <| sn_aload_n dX9_go_25 rfl <| sn_dup dX9_go_26 <| sn_getf dX9_go_27 rfl hinX9 (by decide) w_1001 <| sn_iconst dX9_go_30 rfl <| sn_iadd dX9_go_31 <| sn_putI tyX9 tyX9_ok nmX9 dX9_go_32 rfl hinX9 (by decide) w_1001 (Or.inl rfl) (tyX9_ok 10 (by decide)) <| sn_goto (tg := 0) dX9_go_35 rfl rfl
set_option maxRecDepth 100000 in
theorem sX9_go_1 {G : ab_G} {xs : List Int32} {d : Nat} {cal : ab_F} (hcs : ab_CS G (ab_Z G xs) ab_Mf cal d) : ab_Sd G (ab_Z G xs) (d + 1) (ab_mY mX9_go pX9_go) 38 (bX9_go_1 cal) :=
  sn_aload_n dX9_go_38 rfl <| sn_aload_n dX9_go_39 rfl <| sn_getf dX9_go_40 rfl hinX9 (by decide) w_1001 <| sn_putI tyX9 tyX9_ok nmX9 dX9_go_43 rfl hinX9 (by decide) w_1002 (Or.inl rfl) (tyX9_ok 11 (by decide)) <| sn_aload_n dX9_go_46 rfl <| sn_getf dX9_go_47 rfl hinX9 (by decide) w_1002 <| sn_aload_n dX9_go_50 rfl <| sn_getf dX9_go_51 rfl hinX9 (by decide) w_1005 <| sn_cmp_ne (tg := 61) dX9_go_54 rfl rfl <| sn_iconst dX9_go_57 rfl <| sn_goto (tg := 62) dX9_go_58 rfl rfl
set_option maxRecDepth 100000 in
theorem sX9_go_2 {G : ab_G} {xs : List Int32} {d : Nat} {cal : ab_F} (hcs : ab_CS G (ab_Z G xs) ab_Mf cal d) : ab_Sd G (ab_Z G xs) (d + 1) (ab_mY mX9_go pX9_go) 61 (bX9_go_2 cal) :=
  sn_iconst dX9_go_61 rfl <| sn_next rfl
set_option maxRecDepth 100000 in
theorem sX9_go_3 {G : ab_G} {xs : List Int32} {d : Nat} {cal : ab_F} (hcs : ab_CS G (ab_Z G xs) ab_Mf cal d) : ab_Sd G (ab_Z G xs) (d + 1) (ab_mY mX9_go pX9_go) 62 (bX9_go_3 cal) :=
  sn_istore_n dX9_go_62 rfl (by decide) <| sn_aload_n dX9_go_63 rfl <| sn_getf dX9_go_64 rfl hinX9 (by decide) w_1002 <| sn_aload_n dX9_go_67 rfl <| sn_getf dX9_go_68 rfl hinX9 (by decide) w_1000 <| sn_cmp_ne (tg := 82) dX9_go_71 rfl rfl <| sn_aload_n dX9_go_74 rfl <| sn_iconst dX9_go_75 rfl <| sn_putI tyX9 tyX9_ok nmX9 dX9_go_76 rfl hinX9 (by decide) w_1003 (Or.inl rfl) (tyX9_ok 12 (by decide)) <| sn_goto (tg := 303) dX9_go_79 rfl rfl
set_option maxRecDepth 100000 in
theorem sX9_go_4 {G : ab_G} {xs : List Int32} {d : Nat} {cal : ab_F} (hcs : ab_CS G (ab_Z G xs) ab_Mf cal d) : ab_Sd G (ab_Z G xs) (d + 1) (ab_mY mX9_go pX9_go) 82 (bX9_go_4 cal) :=
  sn_aload_n dX9_go_82 rfl <| sn_aload_n dX9_go_83 rfl <| sn_getf dX9_go_84 rfl hinX9 (by decide) w_1002 <| sq_callV mt_189 hcs dX9_go_87 rfl w_1365 w_1367 w_45 w_63 w_1368 hy_189 hm_189 <| sn_if_eq (tg := 154) dX9_go_90 rfl rfl <| sn_next rfl
set_option maxRecDepth 100000 in
theorem sX9_go_5 {G : ab_G} {xs : List Int32} {d : Nat} {cal : ab_F} (hcs : ab_CS G (ab_Z G xs) ab_Mf cal d) : ab_Sd G (ab_Z G xs) (d + 1) (ab_mY mX9_go pX9_go) 93 (bX9_go_5 cal) :=
  sn_aload_n dX9_go_93 rfl <| sn_aload_n dX9_go_94 rfl <| sn_getf dX9_go_95 rfl hinX9 (by decide) w_1001 <| sq_callV mt_189 hcs dX9_go_98 rfl w_1365 w_1367 w_45 w_63 w_1368 hy_189 hm_189 <| sn_if_eq (tg := 117) dX9_go_101 rfl rfl <| sn_aload_n dX9_go_104 rfl <| sn_dup dX9_go_105 <| sn_getf dX9_go_106 rfl hinX9 (by decide) w_1001 <| sn_iconst dX9_go_109 rfl <| sn_iadd dX9_go_110 <| sn_putI tyX9 tyX9_ok nmX9 dX9_go_111 rfl hinX9 (by decide) w_1001 (Or.inl rfl) (tyX9_ok 10 (by decide)) <| sn_goto (tg := 93) dX9_go_114 rfl rfl
set_option maxRecDepth 100000 in
theorem sX9_go_6 {G : ab_G} {xs : List Int32} {d : Nat} {cal : ab_F} (hcs : ab_CS G (ab_Z G xs) ab_Mf cal d) : ab_Sd G (ab_Z G xs) (d + 1) (ab_mY mX9_go pX9_go) 117 (bX9_go_6 cal) :=
  sn_aload_n dX9_go_117 rfl <| sn_iload_n dX9_go_118 rfl <| sn_if_eq (tg := 126) dX9_go_119 rfl rfl <| sn_iconst dX9_go_122 rfl <| sn_goto (tg := 127) dX9_go_123 rfl rfl
set_option maxRecDepth 100000 in
theorem sX9_go_7 {G : ab_G} {xs : List Int32} {d : Nat} {cal : ab_F} (hcs : ab_CS G (ab_Z G xs) ab_Mf cal d) : ab_Sd G (ab_Z G xs) (d + 1) (ab_mY mX9_go pX9_go) 126 (bX9_go_7 cal) :=
  sn_iconst dX9_go_126 rfl <| sn_next rfl
set_option maxRecDepth 100000 in
theorem sX9_go_8 {G : ab_G} {xs : List Int32} {d : Nat} {cal : ab_F} (hcs : ab_CS G (ab_Z G xs) ab_Mf cal d) : ab_Sd G (ab_Z G xs) (d + 1) (ab_mY mX9_go pX9_go) 127 (bX9_go_8 cal) :=
  sn_putI tyX9 tyX9_ok nmX9 dX9_go_127 rfl hinX9 (by decide) w_1003 (Or.inl rfl) (tyX9_ok 12 (by decide)) <| sn_aload_n dX9_go_130 rfl <| sn_aload_n dX9_go_131 rfl <| sn_getf dX9_go_132 rfl hinX9 (by decide) w_999 <| sn_aload_n dX9_go_135 rfl <| sn_getf dX9_go_136 rfl hinX9 (by decide) w_1002 <| sn_iald dX9_go_139 rfl <| sn_putI tyX9 tyX9_ok nmX9 dX9_go_140 rfl hinX9 (by decide) w_1004 (Or.inl rfl) (tyX9_ok 13 (by decide)) <| sn_aload_n dX9_go_143 rfl <| sn_aload_n dX9_go_144 rfl <| sn_getf dX9_go_145 rfl hinX9 (by decide) w_1001 <| sn_putI tyX9 tyX9_ok nmX9 dX9_go_148 rfl hinX9 (by decide) w_1005 (Or.inl rfl) (tyX9_ok 14 (by decide)) <| sn_goto (tg := 303) dX9_go_151 rfl rfl
set_option maxRecDepth 100000 in
theorem sX9_go_9 {G : ab_G} {xs : List Int32} {d : Nat} {cal : ab_F} (hcs : ab_CS G (ab_Z G xs) ab_Mf cal d) : ab_Sd G (ab_Z G xs) (d + 1) (ab_mY mX9_go pX9_go) 154 (bX9_go_9 cal) :=
  sn_aload_n dX9_go_154 rfl <| sn_aload_n dX9_go_155 rfl <| sn_getf dX9_go_156 rfl hinX9 (by decide) w_1002 <| sq_callV mt_190 hcs dX9_go_159 rfl w_1369 w_1371 w_46 w_63 w_1372 hy_190 hm_190 <| sn_if_eq (tg := 275) dX9_go_162 rfl rfl <| sn_aload_n dX9_go_165 rfl <| sn_iconst dX9_go_166 rfl <| sn_putI tyX9 tyX9_ok nmX9 dX9_go_167 rfl hinX9 (by decide) w_1004 (Or.inl rfl) (tyX9_ok 13 (by decide)) <| sn_next rfl
set_option maxRecDepth 100000 in
theorem sX9_go_10 {G : ab_G} {xs : List Int32} {d : Nat} {cal : ab_F} (hcs : ab_CS G (ab_Z G xs) ab_Mf cal d) : ab_Sd G (ab_Z G xs) (d + 1) (ab_mY mX9_go pX9_go) 170 (bX9_go_10 cal) :=
  sn_aload_n dX9_go_170 rfl <| sn_aload_n dX9_go_171 rfl <| sn_getf dX9_go_172 rfl hinX9 (by decide) w_1001 <| sq_callV mt_190 hcs dX9_go_175 rfl w_1369 w_1371 w_46 w_63 w_1372 hy_190 hm_190 <| sn_if_eq (tg := 238) dX9_go_178 rfl rfl <| sn_aload_n dX9_go_181 rfl <| sn_aload_n dX9_go_182 rfl <| sn_getf dX9_go_183 rfl hinX9 (by decide) w_1001 <| sn_aload_n dX9_go_186 rfl <| sn_getf dX9_go_187 rfl hinX9 (by decide) w_1002 <| sn_isub dX9_go_190 <| sn_iconst dX9_go_191 rfl <| sn_cmp_ge (tg := 218) dX9_go_192 rfl rfl <| sn_bipush dX9_go_195 rfl <| sn_aload_n dX9_go_197 rfl <| sn_getf dX9_go_198 rfl hinX9 (by decide) w_1004 <| sn_imul dX9_go_201 <| sn_aload_n dX9_go_202 rfl <| sn_getf dX9_go_203 rfl hinX9 (by decide) w_999 <| sn_aload_n dX9_go_206 rfl <| sn_getf dX9_go_207 rfl hinX9 (by decide) w_1001 <| sn_iald dX9_go_210 rfl <| sn_iadd dX9_go_211 <| sn_bipush dX9_go_212 rfl <| sn_isub dX9_go_214 <| sn_goto (tg := 222) dX9_go_215 rfl rfl
set_option maxRecDepth 100000 in
theorem sX9_go_11 {G : ab_G} {xs : List Int32} {d : Nat} {cal : ab_F} (hcs : ab_CS G (ab_Z G xs) ab_Mf cal d) : ab_Sd G (ab_Z G xs) (d + 1) (ab_mY mX9_go pX9_go) 218 (bX9_go_11 cal) :=
  sn_aload_n dX9_go_218 rfl <| sn_getf dX9_go_219 rfl hinX9 (by decide) w_1004 <| sn_next rfl
set_option maxRecDepth 100000 in
theorem sX9_go_12 {G : ab_G} {xs : List Int32} {d : Nat} {cal : ab_F} (hcs : ab_CS G (ab_Z G xs) ab_Mf cal d) : ab_Sd G (ab_Z G xs) (d + 1) (ab_mY mX9_go pX9_go) 222 (bX9_go_12 cal) :=
  sn_putI tyX9 tyX9_ok nmX9 dX9_go_222 rfl hinX9 (by decide) w_1004 (Or.inl rfl) (tyX9_ok 13 (by decide)) <| sn_aload_n dX9_go_225 rfl <| sn_dup dX9_go_226 <| sn_getf dX9_go_227 rfl hinX9 (by decide) w_1001 <| sn_iconst dX9_go_230 rfl <| sn_iadd dX9_go_231 <| sn_putI tyX9 tyX9_ok nmX9 dX9_go_232 rfl hinX9 (by decide) w_1001 (Or.inl rfl) (tyX9_ok 10 (by decide)) <| sn_goto (tg := 170) dX9_go_235 rfl rfl
set_option maxRecDepth 100000 in
theorem sX9_go_13 {G : ab_G} {xs : List Int32} {d : Nat} {cal : ab_F} (hcs : ab_CS G (ab_Z G xs) ab_Mf cal d) : ab_Sd G (ab_Z G xs) (d + 1) (ab_mY mX9_go pX9_go) 238 (bX9_go_13 cal) :=
  sn_aload_n dX9_go_238 rfl <| sn_iload_n dX9_go_239 rfl <| sn_if_ne (tg := 256) dX9_go_240 rfl rfl <| sn_aload_n dX9_go_243 rfl <| sn_getf dX9_go_244 rfl hinX9 (by decide) w_1001 <| sn_aload_n dX9_go_247 rfl <| sn_getf dX9_go_248 rfl hinX9 (by decide) w_1002 <| sn_isub dX9_go_251 <| sn_iconst dX9_go_252 rfl <| sn_cmp_le (tg := 260) dX9_go_253 rfl rfl <| sn_next rfl
set_option maxRecDepth 100000 in
theorem sX9_go_14 {G : ab_G} {xs : List Int32} {d : Nat} {cal : ab_F} (hcs : ab_CS G (ab_Z G xs) ab_Mf cal d) : ab_Sd G (ab_Z G xs) (d + 1) (ab_mY mX9_go pX9_go) 256 (bX9_go_14 cal) :=
  sn_iconst dX9_go_256 rfl <| sn_goto (tg := 261) dX9_go_257 rfl rfl
set_option maxRecDepth 100000 in
theorem sX9_go_15 {G : ab_G} {xs : List Int32} {d : Nat} {cal : ab_F} (hcs : ab_CS G (ab_Z G xs) ab_Mf cal d) : ab_Sd G (ab_Z G xs) (d + 1) (ab_mY mX9_go pX9_go) 260 (bX9_go_15 cal) :=
  sn_iconst dX9_go_260 rfl <| sn_next rfl
set_option maxRecDepth 100000 in
theorem sX9_go_16 {G : ab_G} {xs : List Int32} {d : Nat} {cal : ab_F} (hcs : ab_CS G (ab_Z G xs) ab_Mf cal d) : ab_Sd G (ab_Z G xs) (d + 1) (ab_mY mX9_go pX9_go) 261 (bX9_go_16 cal) :=
  sn_putI tyX9 tyX9_ok nmX9 dX9_go_261 rfl hinX9 (by decide) w_1003 (Or.inl rfl) (tyX9_ok 12 (by decide)) <| sn_aload_n dX9_go_264 rfl <| sn_aload_n dX9_go_265 rfl <| sn_getf dX9_go_266 rfl hinX9 (by decide) w_1001 <| sn_putI tyX9 tyX9_ok nmX9 dX9_go_269 rfl hinX9 (by decide) w_1005 (Or.inl rfl) (tyX9_ok 14 (by decide)) <| sn_goto (tg := 303) dX9_go_272 rfl rfl
set_option maxRecDepth 100000 in
theorem sX9_go_17 {G : ab_G} {xs : List Int32} {d : Nat} {cal : ab_F} (hcs : ab_CS G (ab_Z G xs) ab_Mf cal d) : ab_Sd G (ab_Z G xs) (d + 1) (ab_mY mX9_go pX9_go) 275 (bX9_go_17 cal) :=
  sn_aload_n dX9_go_275 rfl <| sn_iconst dX9_go_276 rfl <| sn_putI tyX9 tyX9_ok nmX9 dX9_go_277 rfl hinX9 (by decide) w_1003 (Or.inl rfl) (tyX9_ok 12 (by decide)) <| sn_aload_n dX9_go_280 rfl <| sn_aload_n dX9_go_281 rfl <| sn_getf dX9_go_282 rfl hinX9 (by decide) w_999 <| sn_aload_n dX9_go_285 rfl <| sn_getf dX9_go_286 rfl hinX9 (by decide) w_1002 <| sn_iald dX9_go_289 rfl <| sn_putI tyX9 tyX9_ok nmX9 dX9_go_290 rfl hinX9 (by decide) w_1004 (Or.inl rfl) (tyX9_ok 13 (by decide)) <| sn_aload_n dX9_go_293 rfl <| sn_dup dX9_go_294 <| sn_getf dX9_go_295 rfl hinX9 (by decide) w_1001 <| sn_iconst dX9_go_298 rfl <| sn_iadd dX9_go_299 <| sn_putI tyX9 tyX9_ok nmX9 dX9_go_300 rfl hinX9 (by decide) w_1001 (Or.inl rfl) (tyX9_ok 10 (by decide)) <| sn_next rfl
set_option maxRecDepth 100000 in
theorem sX9_go_18 {G : ab_G} {xs : List Int32} {d : Nat} {cal : ab_F} (hcs : ab_CS G (ab_Z G xs) ab_Mf cal d) : ab_Sd G (ab_Z G xs) (d + 1) (ab_mY mX9_go pX9_go) 303 (bX9_go_18 cal) :=
  sn_ret dX9_go_303 ab_ri_void
theorem sX9_go {G : ab_G} {xs : List Int32} {d : Nat} {cal : ab_F} (hcs : ab_CS G (ab_Z G xs) ab_Mf cal d) : ab_BS G (ab_Z G xs) (d + 1) (ab_mY mX9_go pX9_go) pX9_go (bX9_go cal) := ⟨sX9_go_0 hcs, sX9_go_1 hcs, sX9_go_2 hcs, sX9_go_3 hcs, sX9_go_4 hcs, sX9_go_5 hcs, sX9_go_6 hcs, sX9_go_7 hcs, sX9_go_8 hcs, sX9_go_9 hcs, sX9_go_10 hcs, sX9_go_11 hcs, sX9_go_12 hcs, sX9_go_13 hcs, sX9_go_14 hcs, sX9_go_15 hcs, sX9_go_16 hcs, sX9_go_17 hcs, sX9_go_18 hcs, trivial⟩
theorem dgX9_takesKey_0 : decode cX9_takesKey 0 = .ok (.aload_n 0, 1) ∧ decode cX9_takesKey 1 = .ok (.getfield 226, 3) ∧ decode cX9_takesKey 4 = .ok (.iconst 1, 1) ∧ decode cX9_takesKey 5 = .ok (.if_icmp .eq 5, 3) ∧ decode cX9_takesKey 8 = .ok (.iconst 0, 1) ∧ decode cX9_takesKey 9 = .ok (.ireturn, 1) ∧ decode cX9_takesKey 10 = .ok (.iconst 0, 1) ∧ decode cX9_takesKey 11 = .ok (.istore_n 1, 1) ∧ decode cX9_takesKey 12 = .ok (.iload_n 1, 1) ∧ decode cX9_takesKey 13 = .ok (.iconst 3, 1) ∧ decode cX9_takesKey 14 = .ok (.if_icmp .ge 113, 3) ∧ decode cX9_takesKey 17 = .ok (.aload_n 0, 1) ∧ decode cX9_takesKey 18 = .ok (.getfield 39, 3) ∧ decode cX9_takesKey 21 = .ok (.iload_n 1, 1) ∧ decode cX9_takesKey 22 = .ok (.iconst 1, 1) ∧ decode cX9_takesKey 23 = .ok (.iadd, 1) := by decide +kernel
theorem dX9_takesKey_0 : decode cX9_takesKey 0 = .ok (.aload_n 0, 1) := dgX9_takesKey_0.1
theorem dX9_takesKey_1 : decode cX9_takesKey 1 = .ok (.getfield 226, 3) := dgX9_takesKey_0.2.1
theorem dX9_takesKey_4 : decode cX9_takesKey 4 = .ok (.iconst 1, 1) := dgX9_takesKey_0.2.2.1
theorem dX9_takesKey_5 : decode cX9_takesKey 5 = .ok (.if_icmp .eq 5, 3) := dgX9_takesKey_0.2.2.2.1
theorem dX9_takesKey_8 : decode cX9_takesKey 8 = .ok (.iconst 0, 1) := dgX9_takesKey_0.2.2.2.2.1
theorem dX9_takesKey_9 : decode cX9_takesKey 9 = .ok (.ireturn, 1) := dgX9_takesKey_0.2.2.2.2.2.1
theorem dX9_takesKey_10 : decode cX9_takesKey 10 = .ok (.iconst 0, 1) := dgX9_takesKey_0.2.2.2.2.2.2.1
theorem dX9_takesKey_11 : decode cX9_takesKey 11 = .ok (.istore_n 1, 1) := dgX9_takesKey_0.2.2.2.2.2.2.2.1
theorem dX9_takesKey_12 : decode cX9_takesKey 12 = .ok (.iload_n 1, 1) := dgX9_takesKey_0.2.2.2.2.2.2.2.2.1
theorem dX9_takesKey_13 : decode cX9_takesKey 13 = .ok (.iconst 3, 1) := dgX9_takesKey_0.2.2.2.2.2.2.2.2.2.1
theorem dX9_takesKey_14 : decode cX9_takesKey 14 = .ok (.if_icmp .ge 113, 3) := dgX9_takesKey_0.2.2.2.2.2.2.2.2.2.2.1
theorem dX9_takesKey_17 : decode cX9_takesKey 17 = .ok (.aload_n 0, 1) := dgX9_takesKey_0.2.2.2.2.2.2.2.2.2.2.2.1
theorem dX9_takesKey_18 : decode cX9_takesKey 18 = .ok (.getfield 39, 3) := dgX9_takesKey_0.2.2.2.2.2.2.2.2.2.2.2.2.1
theorem dX9_takesKey_21 : decode cX9_takesKey 21 = .ok (.iload_n 1, 1) := dgX9_takesKey_0.2.2.2.2.2.2.2.2.2.2.2.2.2.1
theorem dX9_takesKey_22 : decode cX9_takesKey 22 = .ok (.iconst 1, 1) := dgX9_takesKey_0.2.2.2.2.2.2.2.2.2.2.2.2.2.2.1
theorem dX9_takesKey_23 : decode cX9_takesKey 23 = .ok (.iadd, 1) := dgX9_takesKey_0.2.2.2.2.2.2.2.2.2.2.2.2.2.2.2
theorem dgX9_takesKey_1 : decode cX9_takesKey 24 = .ok (.iaload, 1) ∧ decode cX9_takesKey 25 = .ok (.aload_n 0, 1) ∧ decode cX9_takesKey 26 = .ok (.getfield 39, 3) ∧ decode cX9_takesKey 29 = .ok (.iload_n 1, 1) ∧ decode cX9_takesKey 30 = .ok (.iaload, 1) ∧ decode cX9_takesKey 31 = .ok (.isub, 1) ∧ decode cX9_takesKey 32 = .ok (.istore_n 2, 1) ∧ decode cX9_takesKey 33 = .ok (.iload_n 2, 1) ∧ decode cX9_takesKey 34 = .ok (.aload_n 0, 1) ∧ decode cX9_takesKey 35 = .ok (.getfield 217, 3) ∧ decode cX9_takesKey 38 = .ok (.aload_n 0, 1) ∧ decode cX9_takesKey 39 = .ok (.getfield 220, 3) ∧ decode cX9_takesKey 42 = .ok (.isub, 1) ∧ decode cX9_takesKey 43 = .ok (.if_icmp .ne 7, 3) ∧ decode cX9_takesKey 46 = .ok (.iconst 1, 1) ∧ decode cX9_takesKey 47 = .ok (.goto 4, 3) := by decide +kernel
theorem dX9_takesKey_24 : decode cX9_takesKey 24 = .ok (.iaload, 1) := dgX9_takesKey_1.1
theorem dX9_takesKey_25 : decode cX9_takesKey 25 = .ok (.aload_n 0, 1) := dgX9_takesKey_1.2.1
theorem dX9_takesKey_26 : decode cX9_takesKey 26 = .ok (.getfield 39, 3) := dgX9_takesKey_1.2.2.1
theorem dX9_takesKey_29 : decode cX9_takesKey 29 = .ok (.iload_n 1, 1) := dgX9_takesKey_1.2.2.2.1
theorem dX9_takesKey_30 : decode cX9_takesKey 30 = .ok (.iaload, 1) := dgX9_takesKey_1.2.2.2.2.1
theorem dX9_takesKey_31 : decode cX9_takesKey 31 = .ok (.isub, 1) := dgX9_takesKey_1.2.2.2.2.2.1
theorem dX9_takesKey_32 : decode cX9_takesKey 32 = .ok (.istore_n 2, 1) := dgX9_takesKey_1.2.2.2.2.2.2.1
theorem dX9_takesKey_33 : decode cX9_takesKey 33 = .ok (.iload_n 2, 1) := dgX9_takesKey_1.2.2.2.2.2.2.2.1
theorem dX9_takesKey_34 : decode cX9_takesKey 34 = .ok (.aload_n 0, 1) := dgX9_takesKey_1.2.2.2.2.2.2.2.2.1
theorem dX9_takesKey_35 : decode cX9_takesKey 35 = .ok (.getfield 217, 3) := dgX9_takesKey_1.2.2.2.2.2.2.2.2.2.1
theorem dX9_takesKey_38 : decode cX9_takesKey 38 = .ok (.aload_n 0, 1) := dgX9_takesKey_1.2.2.2.2.2.2.2.2.2.2.1
theorem dX9_takesKey_39 : decode cX9_takesKey 39 = .ok (.getfield 220, 3) := dgX9_takesKey_1.2.2.2.2.2.2.2.2.2.2.2.1
theorem dX9_takesKey_42 : decode cX9_takesKey 42 = .ok (.isub, 1) := dgX9_takesKey_1.2.2.2.2.2.2.2.2.2.2.2.2.1
theorem dX9_takesKey_43 : decode cX9_takesKey 43 = .ok (.if_icmp .ne 7, 3) := dgX9_takesKey_1.2.2.2.2.2.2.2.2.2.2.2.2.2.1
theorem dX9_takesKey_46 : decode cX9_takesKey 46 = .ok (.iconst 1, 1) := dgX9_takesKey_1.2.2.2.2.2.2.2.2.2.2.2.2.2.2.1
theorem dX9_takesKey_47 : decode cX9_takesKey 47 = .ok (.goto 4, 3) := dgX9_takesKey_1.2.2.2.2.2.2.2.2.2.2.2.2.2.2.2
theorem dgX9_takesKey_2 : decode cX9_takesKey 50 = .ok (.iconst 0, 1) ∧ decode cX9_takesKey 51 = .ok (.istore_n 3, 1) ∧ decode cX9_takesKey 52 = .ok (.iconst 0, 1) ∧ decode cX9_takesKey 53 = .ok (.istore 4, 2) ∧ decode cX9_takesKey 55 = .ok (.iload 4, 2) ∧ decode cX9_takesKey 57 = .ok (.iload_n 2, 1) ∧ decode cX9_takesKey 58 = .ok (.if_icmp .ge 48, 3) ∧ decode cX9_takesKey 61 = .ok (.iload_n 3, 1) ∧ decode cX9_takesKey 62 = .ok (.ifCond .eq 44, 3) ∧ decode cX9_takesKey 65 = .ok (.aload_n 0, 1) ∧ decode cX9_takesKey 66 = .ok (.getfield 32, 3) ∧ decode cX9_takesKey 69 = .ok (.aload_n 0, 1) ∧ decode cX9_takesKey 70 = .ok (.getfield 220, 3) ∧ decode cX9_takesKey 73 = .ok (.iload 4, 2) ∧ decode cX9_takesKey 75 = .ok (.iadd, 1) ∧ decode cX9_takesKey 76 = .ok (.iaload, 1) := by decide +kernel
theorem dX9_takesKey_50 : decode cX9_takesKey 50 = .ok (.iconst 0, 1) := dgX9_takesKey_2.1
theorem dX9_takesKey_51 : decode cX9_takesKey 51 = .ok (.istore_n 3, 1) := dgX9_takesKey_2.2.1
theorem dX9_takesKey_52 : decode cX9_takesKey 52 = .ok (.iconst 0, 1) := dgX9_takesKey_2.2.2.1
theorem dX9_takesKey_53 : decode cX9_takesKey 53 = .ok (.istore 4, 2) := dgX9_takesKey_2.2.2.2.1
theorem dX9_takesKey_55 : decode cX9_takesKey 55 = .ok (.iload 4, 2) := dgX9_takesKey_2.2.2.2.2.1
theorem dX9_takesKey_57 : decode cX9_takesKey 57 = .ok (.iload_n 2, 1) := dgX9_takesKey_2.2.2.2.2.2.1
theorem dX9_takesKey_58 : decode cX9_takesKey 58 = .ok (.if_icmp .ge 48, 3) := dgX9_takesKey_2.2.2.2.2.2.2.1
theorem dX9_takesKey_61 : decode cX9_takesKey 61 = .ok (.iload_n 3, 1) := dgX9_takesKey_2.2.2.2.2.2.2.2.1
theorem dX9_takesKey_62 : decode cX9_takesKey 62 = .ok (.ifCond .eq 44, 3) := dgX9_takesKey_2.2.2.2.2.2.2.2.2.1
theorem dX9_takesKey_65 : decode cX9_takesKey 65 = .ok (.aload_n 0, 1) := dgX9_takesKey_2.2.2.2.2.2.2.2.2.2.1
theorem dX9_takesKey_66 : decode cX9_takesKey 66 = .ok (.getfield 32, 3) := dgX9_takesKey_2.2.2.2.2.2.2.2.2.2.2.1
theorem dX9_takesKey_69 : decode cX9_takesKey 69 = .ok (.aload_n 0, 1) := dgX9_takesKey_2.2.2.2.2.2.2.2.2.2.2.2.1
theorem dX9_takesKey_70 : decode cX9_takesKey 70 = .ok (.getfield 220, 3) := dgX9_takesKey_2.2.2.2.2.2.2.2.2.2.2.2.2.1
theorem dX9_takesKey_73 : decode cX9_takesKey 73 = .ok (.iload 4, 2) := dgX9_takesKey_2.2.2.2.2.2.2.2.2.2.2.2.2.2.1
theorem dX9_takesKey_75 : decode cX9_takesKey 75 = .ok (.iadd, 1) := dgX9_takesKey_2.2.2.2.2.2.2.2.2.2.2.2.2.2.2.1
theorem dX9_takesKey_76 : decode cX9_takesKey 76 = .ok (.iaload, 1) := dgX9_takesKey_2.2.2.2.2.2.2.2.2.2.2.2.2.2.2.2
theorem dgX9_takesKey_3 : decode cX9_takesKey 77 = .ok (.aload_n 0, 1) ∧ decode cX9_takesKey 78 = .ok (.getfield 35, 3) ∧ decode cX9_takesKey 81 = .ok (.aload_n 0, 1) ∧ decode cX9_takesKey 82 = .ok (.getfield 39, 3) ∧ decode cX9_takesKey 85 = .ok (.iload_n 1, 1) ∧ decode cX9_takesKey 86 = .ok (.iaload, 1) ∧ decode cX9_takesKey 87 = .ok (.iload 4, 2) ∧ decode cX9_takesKey 89 = .ok (.iadd, 1) ∧ decode cX9_takesKey 90 = .ok (.caload, 1) ∧ decode cX9_takesKey 91 = .ok (.if_icmp .ne 7, 3) ∧ decode cX9_takesKey 94 = .ok (.iconst 1, 1) ∧ decode cX9_takesKey 95 = .ok (.goto 4, 3) ∧ decode cX9_takesKey 98 = .ok (.iconst 0, 1) ∧ decode cX9_takesKey 99 = .ok (.istore_n 3, 1) ∧ decode cX9_takesKey 100 = .ok (.iinc 4 1, 3) ∧ decode cX9_takesKey 103 = .ok (.goto (-48), 3) := by decide +kernel
theorem dX9_takesKey_77 : decode cX9_takesKey 77 = .ok (.aload_n 0, 1) := dgX9_takesKey_3.1
theorem dX9_takesKey_78 : decode cX9_takesKey 78 = .ok (.getfield 35, 3) := dgX9_takesKey_3.2.1
theorem dX9_takesKey_81 : decode cX9_takesKey 81 = .ok (.aload_n 0, 1) := dgX9_takesKey_3.2.2.1
theorem dX9_takesKey_82 : decode cX9_takesKey 82 = .ok (.getfield 39, 3) := dgX9_takesKey_3.2.2.2.1
theorem dX9_takesKey_85 : decode cX9_takesKey 85 = .ok (.iload_n 1, 1) := dgX9_takesKey_3.2.2.2.2.1
theorem dX9_takesKey_86 : decode cX9_takesKey 86 = .ok (.iaload, 1) := dgX9_takesKey_3.2.2.2.2.2.1
theorem dX9_takesKey_87 : decode cX9_takesKey 87 = .ok (.iload 4, 2) := dgX9_takesKey_3.2.2.2.2.2.2.1
theorem dX9_takesKey_89 : decode cX9_takesKey 89 = .ok (.iadd, 1) := dgX9_takesKey_3.2.2.2.2.2.2.2.1
theorem dX9_takesKey_90 : decode cX9_takesKey 90 = .ok (.caload, 1) := dgX9_takesKey_3.2.2.2.2.2.2.2.2.1
theorem dX9_takesKey_91 : decode cX9_takesKey 91 = .ok (.if_icmp .ne 7, 3) := dgX9_takesKey_3.2.2.2.2.2.2.2.2.2.1
theorem dX9_takesKey_94 : decode cX9_takesKey 94 = .ok (.iconst 1, 1) := dgX9_takesKey_3.2.2.2.2.2.2.2.2.2.2.1
theorem dX9_takesKey_95 : decode cX9_takesKey 95 = .ok (.goto 4, 3) := dgX9_takesKey_3.2.2.2.2.2.2.2.2.2.2.2.1
theorem dX9_takesKey_98 : decode cX9_takesKey 98 = .ok (.iconst 0, 1) := dgX9_takesKey_3.2.2.2.2.2.2.2.2.2.2.2.2.1
theorem dX9_takesKey_99 : decode cX9_takesKey 99 = .ok (.istore_n 3, 1) := dgX9_takesKey_3.2.2.2.2.2.2.2.2.2.2.2.2.2.1
theorem dX9_takesKey_100 : decode cX9_takesKey 100 = .ok (.iinc 4 1, 3) := dgX9_takesKey_3.2.2.2.2.2.2.2.2.2.2.2.2.2.2.1
theorem dX9_takesKey_103 : decode cX9_takesKey 103 = .ok (.goto (-48), 3) := dgX9_takesKey_3.2.2.2.2.2.2.2.2.2.2.2.2.2.2.2
theorem dgX9_takesKey_4 : decode cX9_takesKey 106 = .ok (.iload_n 3, 1) ∧ decode cX9_takesKey 107 = .ok (.ifCond .eq 14, 3) ∧ decode cX9_takesKey 110 = .ok (.aload_n 0, 1) ∧ decode cX9_takesKey 111 = .ok (.iload_n 1, 1) ∧ decode cX9_takesKey 112 = .ok (.putfield 238, 3) ∧ decode cX9_takesKey 115 = .ok (.aload_n 0, 1) ∧ decode cX9_takesKey 116 = .ok (.invokevirtual 241, 3) ∧ decode cX9_takesKey 119 = .ok (.iconst 1, 1) ∧ decode cX9_takesKey 120 = .ok (.ireturn, 1) ∧ decode cX9_takesKey 121 = .ok (.iinc 1 1, 3) ∧ decode cX9_takesKey 124 = .ok (.goto (-112), 3) ∧ decode cX9_takesKey 127 = .ok (.iconst 0, 1) ∧ decode cX9_takesKey 128 = .ok (.ireturn, 1) := by decide +kernel
theorem dX9_takesKey_106 : decode cX9_takesKey 106 = .ok (.iload_n 3, 1) := dgX9_takesKey_4.1
theorem dX9_takesKey_107 : decode cX9_takesKey 107 = .ok (.ifCond .eq 14, 3) := dgX9_takesKey_4.2.1
theorem dX9_takesKey_110 : decode cX9_takesKey 110 = .ok (.aload_n 0, 1) := dgX9_takesKey_4.2.2.1
theorem dX9_takesKey_111 : decode cX9_takesKey 111 = .ok (.iload_n 1, 1) := dgX9_takesKey_4.2.2.2.1
theorem dX9_takesKey_112 : decode cX9_takesKey 112 = .ok (.putfield 238, 3) := dgX9_takesKey_4.2.2.2.2.1
theorem dX9_takesKey_115 : decode cX9_takesKey 115 = .ok (.aload_n 0, 1) := dgX9_takesKey_4.2.2.2.2.2.1
theorem dX9_takesKey_116 : decode cX9_takesKey 116 = .ok (.invokevirtual 241, 3) := dgX9_takesKey_4.2.2.2.2.2.2.1
theorem dX9_takesKey_119 : decode cX9_takesKey 119 = .ok (.iconst 1, 1) := dgX9_takesKey_4.2.2.2.2.2.2.2.1
theorem dX9_takesKey_120 : decode cX9_takesKey 120 = .ok (.ireturn, 1) := dgX9_takesKey_4.2.2.2.2.2.2.2.2.1
theorem dX9_takesKey_121 : decode cX9_takesKey 121 = .ok (.iinc 1 1, 3) := dgX9_takesKey_4.2.2.2.2.2.2.2.2.2.1
theorem dX9_takesKey_124 : decode cX9_takesKey 124 = .ok (.goto (-112), 3) := dgX9_takesKey_4.2.2.2.2.2.2.2.2.2.2.1
theorem dX9_takesKey_127 : decode cX9_takesKey 127 = .ok (.iconst 0, 1) := dgX9_takesKey_4.2.2.2.2.2.2.2.2.2.2.2.1
theorem dX9_takesKey_128 : decode cX9_takesKey 128 = .ok (.ireturn, 1) := dgX9_takesKey_4.2.2.2.2.2.2.2.2.2.2.2.2
abbrev pX9_takesKey : List Nat := [0, 10, 12, 50, 51, 55, 98, 99, 106, 121, 127]
def bX9_takesKey_0 (cal : ab_F) : ab_K := o_aload 0 <| o_getf 8 12 <| o_push (.int 1) <| o_cmp (fun x y => decide (x = y)) 1 <| o_push (.int 0) <| o_ret (some .boolean)
def bX9_takesKey_1 (cal : ab_F) : ab_K := o_push (.int 0) <| o_istore 1 <| o_goto 2
def bX9_takesKey_2 (cal : ab_F) : ab_K := o_iload 1 <| o_push (.int 3) <| o_cmp (fun x y => decide (y ≤ x)) 10 <| o_aload 0 <| o_getf 8 17 <| o_iload 1 <| o_push (.int 1) <| o_bin (fun x y => x + y) <| o_iald 0 <| o_aload 0 <| o_getf 8 17 <| o_iload 1 <| o_iald 0 <| o_bin (fun x y => x - y) <| o_istore 2 <| o_iload 2 <| o_aload 0 <| o_getf 8 10 <| o_aload 0 <| o_getf 8 11 <| o_bin (fun x y => x - y) <| o_cmp (fun x y => decide (¬ x = y)) 3 <| o_push (.int 1) <| o_goto 4
def bX9_takesKey_3 (cal : ab_F) : ab_K := o_push (.int 0) <| o_goto 4
def bX9_takesKey_4 (cal : ab_F) : ab_K := o_istore 3 <| o_push (.int 0) <| o_istore 4 <| o_goto 5
def bX9_takesKey_5 (cal : ab_F) : ab_K := o_iload 4 <| o_iload 2 <| o_cmp (fun x y => decide (y ≤ x)) 8 <| o_iload 3 <| o_if (fun x => decide (x = 0)) 8 <| o_aload 0 <| o_getf 8 8 <| o_aload 0 <| o_getf 8 11 <| o_iload 4 <| o_bin (fun x y => x + y) <| o_iald 0 <| o_aload 0 <| o_getf 8 16 <| o_aload 0 <| o_getf 8 17 <| o_iload 1 <| o_iald 0 <| o_iload 4 <| o_bin (fun x y => x + y) <| o_iald 1 <| o_cmp (fun x y => decide (¬ x = y)) 6 <| o_push (.int 1) <| o_goto 7
def bX9_takesKey_6 (cal : ab_F) : ab_K := o_push (.int 0) <| o_goto 7
def bX9_takesKey_7 (cal : ab_F) : ab_K := o_istore 3 <| o_iinc 4 1 <| o_goto 5
def bX9_takesKey_8 (cal : ab_F) : ab_K := o_iload 3 <| o_if (fun x => decide (x = 0)) 9 <| o_aload 0 <| o_iload 1 <| o_putI 8 15 <| o_aload 0 <| o_callV cal 191 0 8 <| o_push (.int 1) <| o_ret (some .boolean)
def bX9_takesKey_9 (cal : ab_F) : ab_K := o_iinc 1 1 <| o_goto 2
def bX9_takesKey_10 (cal : ab_F) : ab_K := o_push (.int 0) <| o_ret (some .boolean)
def bX9_takesKey (cal : ab_F) : List ab_K := [bX9_takesKey_0 cal, bX9_takesKey_1 cal, bX9_takesKey_2 cal, bX9_takesKey_3 cal, bX9_takesKey_4 cal, bX9_takesKey_5 cal, bX9_takesKey_6 cal, bX9_takesKey_7 cal, bX9_takesKey_8 cal, bX9_takesKey_9 cal, bX9_takesKey_10 cal]
set_option maxRecDepth 100000 in
theorem sX9_takesKey_0 {G : ab_G} {xs : List Int32} {d : Nat} {cal : ab_F} (hcs : ab_CS G (ab_Z G xs) ab_Mf cal d) : ab_Sd G (ab_Z G xs) (d + 1) (ab_mY mX9_takesKey pX9_takesKey) 0 (bX9_takesKey_0 cal) :=
  sn_aload_n dX9_takesKey_0 rfl <| sn_getf dX9_takesKey_1 rfl hinX9 (by decide) w_1003 <| sn_iconst dX9_takesKey_4 rfl <| sn_cmp_eq (tg := 10) dX9_takesKey_5 rfl rfl <| sn_iconst dX9_takesKey_8 rfl <| sn_ret dX9_takesKey_9 ab_ri_bool
set_option maxRecDepth 100000 in
theorem sX9_takesKey_1 {G : ab_G} {xs : List Int32} {d : Nat} {cal : ab_F} (hcs : ab_CS G (ab_Z G xs) ab_Mf cal d) : ab_Sd G (ab_Z G xs) (d + 1) (ab_mY mX9_takesKey pX9_takesKey) 10 (bX9_takesKey_1 cal) :=
  sn_iconst dX9_takesKey_10 rfl <| sn_istore_n dX9_takesKey_11 rfl (by decide) <| sn_next rfl
set_option maxRecDepth 100000 in
theorem sX9_takesKey_2 {G : ab_G} {xs : List Int32} {d : Nat} {cal : ab_F} (hcs : ab_CS G (ab_Z G xs) ab_Mf cal d) : ab_Sd G (ab_Z G xs) (d + 1) (ab_mY mX9_takesKey pX9_takesKey) 12 (bX9_takesKey_2 cal) :=
  sn_iload_n dX9_takesKey_12 rfl <| sn_iconst dX9_takesKey_13 rfl <| sn_cmp_ge (tg := 127) dX9_takesKey_14 rfl rfl <| sn_aload_n dX9_takesKey_17 rfl <| sn_getf dX9_takesKey_18 rfl hinX9 (by decide) w_1008 <| sn_iload_n dX9_takesKey_21 rfl <| sn_iconst dX9_takesKey_22 rfl <| sn_iadd dX9_takesKey_23 <| sn_iald dX9_takesKey_24 rfl <| sn_aload_n dX9_takesKey_25 rfl <| sn_getf dX9_takesKey_26 rfl hinX9 (by decide) w_1008 <| sn_iload_n dX9_takesKey_29 rfl <| sn_iald dX9_takesKey_30 rfl <| sn_isub dX9_takesKey_31 <| sn_istore_n dX9_takesKey_32 rfl (by decide) <| sn_iload_n dX9_takesKey_33 rfl <| sn_aload_n dX9_takesKey_34 rfl <| sn_getf dX9_takesKey_35 rfl hinX9 (by decide) w_1001 <| sn_aload_n dX9_takesKey_38 rfl <| sn_getf dX9_takesKey_39 rfl hinX9 (by decide) w_1002 <| sn_isub dX9_takesKey_42 <| sn_cmp_ne (tg := 50) dX9_takesKey_43 rfl rfl <| sn_iconst dX9_takesKey_46 rfl <| sn_goto (tg := 51) dX9_takesKey_47 rfl rfl
set_option maxRecDepth 100000 in
theorem sX9_takesKey_3 {G : ab_G} {xs : List Int32} {d : Nat} {cal : ab_F} (hcs : ab_CS G (ab_Z G xs) ab_Mf cal d) : ab_Sd G (ab_Z G xs) (d + 1) (ab_mY mX9_takesKey pX9_takesKey) 50 (bX9_takesKey_3 cal) :=
  sn_iconst dX9_takesKey_50 rfl <| sn_next rfl
set_option maxRecDepth 100000 in
theorem sX9_takesKey_4 {G : ab_G} {xs : List Int32} {d : Nat} {cal : ab_F} (hcs : ab_CS G (ab_Z G xs) ab_Mf cal d) : ab_Sd G (ab_Z G xs) (d + 1) (ab_mY mX9_takesKey pX9_takesKey) 51 (bX9_takesKey_4 cal) :=
  sn_istore_n dX9_takesKey_51 rfl (by decide) <| sn_iconst dX9_takesKey_52 rfl <| sn_istore dX9_takesKey_53 (by decide) <| sn_next rfl
set_option maxRecDepth 100000 in
theorem sX9_takesKey_5 {G : ab_G} {xs : List Int32} {d : Nat} {cal : ab_F} (hcs : ab_CS G (ab_Z G xs) ab_Mf cal d) : ab_Sd G (ab_Z G xs) (d + 1) (ab_mY mX9_takesKey pX9_takesKey) 55 (bX9_takesKey_5 cal) :=
  sn_iload dX9_takesKey_55 <| sn_iload_n dX9_takesKey_57 rfl <| sn_cmp_ge (tg := 106) dX9_takesKey_58 rfl rfl <| sn_iload_n dX9_takesKey_61 rfl <| sn_if_eq (tg := 106) dX9_takesKey_62 rfl rfl <| sn_aload_n dX9_takesKey_65 rfl <| sn_getf dX9_takesKey_66 rfl hinX9 (by decide) w_999 <| sn_aload_n dX9_takesKey_69 rfl <| sn_getf dX9_takesKey_70 rfl hinX9 (by decide) w_1002 <| sn_iload dX9_takesKey_73 <| sn_iadd dX9_takesKey_75 <| sn_iald dX9_takesKey_76 rfl <| sn_aload_n dX9_takesKey_77 rfl <| sn_getf dX9_takesKey_78 rfl hinX9 (by decide) w_1007 <| sn_aload_n dX9_takesKey_81 rfl <| sn_getf dX9_takesKey_82 rfl hinX9 (by decide) w_1008 <| sn_iload_n dX9_takesKey_85 rfl <| sn_iald dX9_takesKey_86 rfl <| sn_iload dX9_takesKey_87 <| sn_iadd dX9_takesKey_89 <| sn_cald dX9_takesKey_90 rfl <| sn_cmp_ne (tg := 98) dX9_takesKey_91 rfl rfl <| sn_iconst dX9_takesKey_94 rfl <| sn_goto (tg := 99) dX9_takesKey_95 rfl rfl
set_option maxRecDepth 100000 in
theorem sX9_takesKey_6 {G : ab_G} {xs : List Int32} {d : Nat} {cal : ab_F} (hcs : ab_CS G (ab_Z G xs) ab_Mf cal d) : ab_Sd G (ab_Z G xs) (d + 1) (ab_mY mX9_takesKey pX9_takesKey) 98 (bX9_takesKey_6 cal) :=
  sn_iconst dX9_takesKey_98 rfl <| sn_next rfl
set_option maxRecDepth 100000 in
theorem sX9_takesKey_7 {G : ab_G} {xs : List Int32} {d : Nat} {cal : ab_F} (hcs : ab_CS G (ab_Z G xs) ab_Mf cal d) : ab_Sd G (ab_Z G xs) (d + 1) (ab_mY mX9_takesKey pX9_takesKey) 99 (bX9_takesKey_7 cal) :=
  sn_istore_n dX9_takesKey_99 rfl (by decide) <| sn_iinc dX9_takesKey_100 rfl (by decide) <| sn_goto (tg := 55) dX9_takesKey_103 rfl rfl
set_option maxRecDepth 100000 in
theorem sX9_takesKey_8 {G : ab_G} {xs : List Int32} {d : Nat} {cal : ab_F} (hcs : ab_CS G (ab_Z G xs) ab_Mf cal d) : ab_Sd G (ab_Z G xs) (d + 1) (ab_mY mX9_takesKey pX9_takesKey) 106 (bX9_takesKey_8 cal) :=
  sn_iload_n dX9_takesKey_106 rfl <| sn_if_eq (tg := 121) dX9_takesKey_107 rfl rfl <| sn_aload_n dX9_takesKey_110 rfl <| sn_iload_n dX9_takesKey_111 rfl <| sn_putI tyX9 tyX9_ok nmX9 dX9_takesKey_112 rfl hinX9 (by decide) w_1006 (Or.inl rfl) (tyX9_ok 15 (by decide)) <| sn_aload_n dX9_takesKey_115 rfl <| sq_callV mt_191 hcs dX9_takesKey_116 rfl w_1361 w_1363 w_44 w_63 w_1364 hy_191 hm_191 <| sn_iconst dX9_takesKey_119 rfl <| sn_ret dX9_takesKey_120 ab_ri_bool
set_option maxRecDepth 100000 in
theorem sX9_takesKey_9 {G : ab_G} {xs : List Int32} {d : Nat} {cal : ab_F} (hcs : ab_CS G (ab_Z G xs) ab_Mf cal d) : ab_Sd G (ab_Z G xs) (d + 1) (ab_mY mX9_takesKey pX9_takesKey) 121 (bX9_takesKey_9 cal) :=
  sn_iinc dX9_takesKey_121 rfl (by decide) <| sn_goto (tg := 12) dX9_takesKey_124 rfl rfl
set_option maxRecDepth 100000 in
theorem sX9_takesKey_10 {G : ab_G} {xs : List Int32} {d : Nat} {cal : ab_F} (hcs : ab_CS G (ab_Z G xs) ab_Mf cal d) : ab_Sd G (ab_Z G xs) (d + 1) (ab_mY mX9_takesKey pX9_takesKey) 127 (bX9_takesKey_10 cal) :=
  sn_iconst dX9_takesKey_127 rfl <| sn_ret dX9_takesKey_128 ab_ri_bool
theorem sX9_takesKey {G : ab_G} {xs : List Int32} {d : Nat} {cal : ab_F} (hcs : ab_CS G (ab_Z G xs) ab_Mf cal d) : ab_BS G (ab_Z G xs) (d + 1) (ab_mY mX9_takesKey pX9_takesKey) pX9_takesKey (bX9_takesKey cal) := ⟨sX9_takesKey_0 hcs, sX9_takesKey_1 hcs, sX9_takesKey_2 hcs, sX9_takesKey_3 hcs, sX9_takesKey_4 hcs, sX9_takesKey_5 hcs, sX9_takesKey_6 hcs, sX9_takesKey_7 hcs, sX9_takesKey_8 hcs, sX9_takesKey_9 hcs, sX9_takesKey_10 hcs, trivial⟩
theorem dgX9_nameOf_0 : decode cX9_nameOf 0 = .ok (.aload_n 0, 1) ∧ decode cX9_nameOf 1 = .ok (.getfield 238, 3) ∧ decode cX9_nameOf 4 = .ok (.lookupswitch 82 #[(0, 28), (1, 60)], 28) ∧ decode cX9_nameOf 32 = .ok (.iload_n 1, 1) ∧ decode cX9_nameOf 33 = .ok (.bipush 115, 2) ∧ decode cX9_nameOf 35 = .ok (.if_icmp .ne 7, 3) ∧ decode cX9_nameOf 38 = .ok (.iconst 0, 1) ∧ decode cX9_nameOf 39 = .ok (.goto 24, 3) ∧ decode cX9_nameOf 42 = .ok (.iload_n 1, 1) ∧ decode cX9_nameOf 43 = .ok (.bipush 114, 2) ∧ decode cX9_nameOf 45 = .ok (.if_icmp .ne 7, 3) ∧ decode cX9_nameOf 48 = .ok (.iconst 1, 1) ∧ decode cX9_nameOf 49 = .ok (.goto 14, 3) ∧ decode cX9_nameOf 52 = .ok (.iload_n 1, 1) ∧ decode cX9_nameOf 53 = .ok (.bipush 107, 2) ∧ decode cX9_nameOf 55 = .ok (.if_icmp .ne 7, 3) := by decide +kernel
theorem dX9_nameOf_0 : decode cX9_nameOf 0 = .ok (.aload_n 0, 1) := dgX9_nameOf_0.1
theorem dX9_nameOf_1 : decode cX9_nameOf 1 = .ok (.getfield 238, 3) := dgX9_nameOf_0.2.1
theorem dX9_nameOf_4 : decode cX9_nameOf 4 = .ok (.lookupswitch 82 #[(0, 28), (1, 60)], 28) := dgX9_nameOf_0.2.2.1
theorem dX9_nameOf_32 : decode cX9_nameOf 32 = .ok (.iload_n 1, 1) := dgX9_nameOf_0.2.2.2.1
theorem dX9_nameOf_33 : decode cX9_nameOf 33 = .ok (.bipush 115, 2) := dgX9_nameOf_0.2.2.2.2.1
theorem dX9_nameOf_35 : decode cX9_nameOf 35 = .ok (.if_icmp .ne 7, 3) := dgX9_nameOf_0.2.2.2.2.2.1
theorem dX9_nameOf_38 : decode cX9_nameOf 38 = .ok (.iconst 0, 1) := dgX9_nameOf_0.2.2.2.2.2.2.1
theorem dX9_nameOf_39 : decode cX9_nameOf 39 = .ok (.goto 24, 3) := dgX9_nameOf_0.2.2.2.2.2.2.2.1
theorem dX9_nameOf_42 : decode cX9_nameOf 42 = .ok (.iload_n 1, 1) := dgX9_nameOf_0.2.2.2.2.2.2.2.2.1
theorem dX9_nameOf_43 : decode cX9_nameOf 43 = .ok (.bipush 114, 2) := dgX9_nameOf_0.2.2.2.2.2.2.2.2.2.1
theorem dX9_nameOf_45 : decode cX9_nameOf 45 = .ok (.if_icmp .ne 7, 3) := dgX9_nameOf_0.2.2.2.2.2.2.2.2.2.2.1
theorem dX9_nameOf_48 : decode cX9_nameOf 48 = .ok (.iconst 1, 1) := dgX9_nameOf_0.2.2.2.2.2.2.2.2.2.2.2.1
theorem dX9_nameOf_49 : decode cX9_nameOf 49 = .ok (.goto 14, 3) := dgX9_nameOf_0.2.2.2.2.2.2.2.2.2.2.2.2.1
theorem dX9_nameOf_52 : decode cX9_nameOf 52 = .ok (.iload_n 1, 1) := dgX9_nameOf_0.2.2.2.2.2.2.2.2.2.2.2.2.2.1
theorem dX9_nameOf_53 : decode cX9_nameOf 53 = .ok (.bipush 107, 2) := dgX9_nameOf_0.2.2.2.2.2.2.2.2.2.2.2.2.2.2.1
theorem dX9_nameOf_55 : decode cX9_nameOf 55 = .ok (.if_icmp .ne 7, 3) := dgX9_nameOf_0.2.2.2.2.2.2.2.2.2.2.2.2.2.2.2
theorem dgX9_nameOf_1 : decode cX9_nameOf 58 = .ok (.iconst 2, 1) ∧ decode cX9_nameOf 59 = .ok (.goto 4, 3) ∧ decode cX9_nameOf 62 = .ok (.iconst (-1), 1) ∧ decode cX9_nameOf 63 = .ok (.ireturn, 1) ∧ decode cX9_nameOf 64 = .ok (.iload_n 1, 1) ∧ decode cX9_nameOf 65 = .ok (.bipush 112, 2) ∧ decode cX9_nameOf 67 = .ok (.if_icmp .ne 7, 3) ∧ decode cX9_nameOf 70 = .ok (.iconst 0, 1) ∧ decode cX9_nameOf 71 = .ok (.goto 14, 3) ∧ decode cX9_nameOf 74 = .ok (.iload_n 1, 1) ∧ decode cX9_nameOf 75 = .ok (.bipush 109, 2) ∧ decode cX9_nameOf 77 = .ok (.if_icmp .ne 7, 3) ∧ decode cX9_nameOf 80 = .ok (.iconst 1, 1) ∧ decode cX9_nameOf 81 = .ok (.goto 4, 3) ∧ decode cX9_nameOf 84 = .ok (.iconst (-1), 1) ∧ decode cX9_nameOf 85 = .ok (.ireturn, 1) := by decide +kernel
theorem dX9_nameOf_58 : decode cX9_nameOf 58 = .ok (.iconst 2, 1) := dgX9_nameOf_1.1
theorem dX9_nameOf_59 : decode cX9_nameOf 59 = .ok (.goto 4, 3) := dgX9_nameOf_1.2.1
theorem dX9_nameOf_62 : decode cX9_nameOf 62 = .ok (.iconst (-1), 1) := dgX9_nameOf_1.2.2.1
theorem dX9_nameOf_63 : decode cX9_nameOf 63 = .ok (.ireturn, 1) := dgX9_nameOf_1.2.2.2.1
theorem dX9_nameOf_64 : decode cX9_nameOf 64 = .ok (.iload_n 1, 1) := dgX9_nameOf_1.2.2.2.2.1
theorem dX9_nameOf_65 : decode cX9_nameOf 65 = .ok (.bipush 112, 2) := dgX9_nameOf_1.2.2.2.2.2.1
theorem dX9_nameOf_67 : decode cX9_nameOf 67 = .ok (.if_icmp .ne 7, 3) := dgX9_nameOf_1.2.2.2.2.2.2.1
theorem dX9_nameOf_70 : decode cX9_nameOf 70 = .ok (.iconst 0, 1) := dgX9_nameOf_1.2.2.2.2.2.2.2.1
theorem dX9_nameOf_71 : decode cX9_nameOf 71 = .ok (.goto 14, 3) := dgX9_nameOf_1.2.2.2.2.2.2.2.2.1
theorem dX9_nameOf_74 : decode cX9_nameOf 74 = .ok (.iload_n 1, 1) := dgX9_nameOf_1.2.2.2.2.2.2.2.2.2.1
theorem dX9_nameOf_75 : decode cX9_nameOf 75 = .ok (.bipush 109, 2) := dgX9_nameOf_1.2.2.2.2.2.2.2.2.2.2.1
theorem dX9_nameOf_77 : decode cX9_nameOf 77 = .ok (.if_icmp .ne 7, 3) := dgX9_nameOf_1.2.2.2.2.2.2.2.2.2.2.2.1
theorem dX9_nameOf_80 : decode cX9_nameOf 80 = .ok (.iconst 1, 1) := dgX9_nameOf_1.2.2.2.2.2.2.2.2.2.2.2.2.1
theorem dX9_nameOf_81 : decode cX9_nameOf 81 = .ok (.goto 4, 3) := dgX9_nameOf_1.2.2.2.2.2.2.2.2.2.2.2.2.2.1
theorem dX9_nameOf_84 : decode cX9_nameOf 84 = .ok (.iconst (-1), 1) := dgX9_nameOf_1.2.2.2.2.2.2.2.2.2.2.2.2.2.2.1
theorem dX9_nameOf_85 : decode cX9_nameOf 85 = .ok (.ireturn, 1) := dgX9_nameOf_1.2.2.2.2.2.2.2.2.2.2.2.2.2.2.2
theorem dgX9_nameOf_2 : decode cX9_nameOf 86 = .ok (.iload_n 1, 1) ∧ decode cX9_nameOf 87 = .ok (.bipush 108, 2) ∧ decode cX9_nameOf 89 = .ok (.if_icmp .ne 7, 3) ∧ decode cX9_nameOf 92 = .ok (.iconst 0, 1) ∧ decode cX9_nameOf 93 = .ok (.goto 24, 3) ∧ decode cX9_nameOf 96 = .ok (.iload_n 1, 1) ∧ decode cX9_nameOf 97 = .ok (.bipush 114, 2) ∧ decode cX9_nameOf 99 = .ok (.if_icmp .ne 7, 3) ∧ decode cX9_nameOf 102 = .ok (.iconst 1, 1) ∧ decode cX9_nameOf 103 = .ok (.goto 14, 3) ∧ decode cX9_nameOf 106 = .ok (.iload_n 1, 1) ∧ decode cX9_nameOf 107 = .ok (.bipush 116, 2) ∧ decode cX9_nameOf 109 = .ok (.if_icmp .ne 7, 3) ∧ decode cX9_nameOf 112 = .ok (.iconst 2, 1) ∧ decode cX9_nameOf 113 = .ok (.goto 4, 3) ∧ decode cX9_nameOf 116 = .ok (.iconst (-1), 1) := by decide +kernel
theorem dX9_nameOf_86 : decode cX9_nameOf 86 = .ok (.iload_n 1, 1) := dgX9_nameOf_2.1
theorem dX9_nameOf_87 : decode cX9_nameOf 87 = .ok (.bipush 108, 2) := dgX9_nameOf_2.2.1
theorem dX9_nameOf_89 : decode cX9_nameOf 89 = .ok (.if_icmp .ne 7, 3) := dgX9_nameOf_2.2.2.1
theorem dX9_nameOf_92 : decode cX9_nameOf 92 = .ok (.iconst 0, 1) := dgX9_nameOf_2.2.2.2.1
theorem dX9_nameOf_93 : decode cX9_nameOf 93 = .ok (.goto 24, 3) := dgX9_nameOf_2.2.2.2.2.1
theorem dX9_nameOf_96 : decode cX9_nameOf 96 = .ok (.iload_n 1, 1) := dgX9_nameOf_2.2.2.2.2.2.1
theorem dX9_nameOf_97 : decode cX9_nameOf 97 = .ok (.bipush 114, 2) := dgX9_nameOf_2.2.2.2.2.2.2.1
theorem dX9_nameOf_99 : decode cX9_nameOf 99 = .ok (.if_icmp .ne 7, 3) := dgX9_nameOf_2.2.2.2.2.2.2.2.1
theorem dX9_nameOf_102 : decode cX9_nameOf 102 = .ok (.iconst 1, 1) := dgX9_nameOf_2.2.2.2.2.2.2.2.2.1
theorem dX9_nameOf_103 : decode cX9_nameOf 103 = .ok (.goto 14, 3) := dgX9_nameOf_2.2.2.2.2.2.2.2.2.2.1
theorem dX9_nameOf_106 : decode cX9_nameOf 106 = .ok (.iload_n 1, 1) := dgX9_nameOf_2.2.2.2.2.2.2.2.2.2.2.1
theorem dX9_nameOf_107 : decode cX9_nameOf 107 = .ok (.bipush 116, 2) := dgX9_nameOf_2.2.2.2.2.2.2.2.2.2.2.2.1
theorem dX9_nameOf_109 : decode cX9_nameOf 109 = .ok (.if_icmp .ne 7, 3) := dgX9_nameOf_2.2.2.2.2.2.2.2.2.2.2.2.2.1
theorem dX9_nameOf_112 : decode cX9_nameOf 112 = .ok (.iconst 2, 1) := dgX9_nameOf_2.2.2.2.2.2.2.2.2.2.2.2.2.2.1
theorem dX9_nameOf_113 : decode cX9_nameOf 113 = .ok (.goto 4, 3) := dgX9_nameOf_2.2.2.2.2.2.2.2.2.2.2.2.2.2.2.1
theorem dX9_nameOf_116 : decode cX9_nameOf 116 = .ok (.iconst (-1), 1) := dgX9_nameOf_2.2.2.2.2.2.2.2.2.2.2.2.2.2.2.2
theorem dX9_nameOf_117 : decode cX9_nameOf 117 = .ok (.ireturn, 1) := by decide +kernel
abbrev pX9_nameOf : List Nat := [0, 32, 42, 52, 62, 63, 64, 74, 84, 85, 86, 96, 106, 116, 117]
def bX9_nameOf_0 (cal : ab_F) : ab_K := o_aload 0 <| o_getf 8 15 <| o_sw (fun x => ab_lsw [(0, 1), (1, 6)] 10 x.toInt)
def bX9_nameOf_1 (cal : ab_F) : ab_K := o_iload 1 <| o_push (.int 115) <| o_cmp (fun x y => decide (¬ x = y)) 2 <| o_push (.int 0) <| o_goto 5
def bX9_nameOf_2 (cal : ab_F) : ab_K := o_iload 1 <| o_push (.int 114) <| o_cmp (fun x y => decide (¬ x = y)) 3 <| o_push (.int 1) <| o_goto 5
def bX9_nameOf_3 (cal : ab_F) : ab_K := o_iload 1 <| o_push (.int 107) <| o_cmp (fun x y => decide (¬ x = y)) 4 <| o_push (.int 2) <| o_goto 5
def bX9_nameOf_4 (cal : ab_F) : ab_K := o_push (.int (-1)) <| o_goto 5
def bX9_nameOf_5 (cal : ab_F) : ab_K := o_ret (some .int)
def bX9_nameOf_6 (cal : ab_F) : ab_K := o_iload 1 <| o_push (.int 112) <| o_cmp (fun x y => decide (¬ x = y)) 7 <| o_push (.int 0) <| o_goto 9
def bX9_nameOf_7 (cal : ab_F) : ab_K := o_iload 1 <| o_push (.int 109) <| o_cmp (fun x y => decide (¬ x = y)) 8 <| o_push (.int 1) <| o_goto 9
def bX9_nameOf_8 (cal : ab_F) : ab_K := o_push (.int (-1)) <| o_goto 9
def bX9_nameOf_9 (cal : ab_F) : ab_K := o_ret (some .int)
def bX9_nameOf_10 (cal : ab_F) : ab_K := o_iload 1 <| o_push (.int 108) <| o_cmp (fun x y => decide (¬ x = y)) 11 <| o_push (.int 0) <| o_goto 14
def bX9_nameOf_11 (cal : ab_F) : ab_K := o_iload 1 <| o_push (.int 114) <| o_cmp (fun x y => decide (¬ x = y)) 12 <| o_push (.int 1) <| o_goto 14
def bX9_nameOf_12 (cal : ab_F) : ab_K := o_iload 1 <| o_push (.int 116) <| o_cmp (fun x y => decide (¬ x = y)) 13 <| o_push (.int 2) <| o_goto 14
def bX9_nameOf_13 (cal : ab_F) : ab_K := o_push (.int (-1)) <| o_goto 14
def bX9_nameOf_14 (cal : ab_F) : ab_K := o_ret (some .int)
def bX9_nameOf (cal : ab_F) : List ab_K := [bX9_nameOf_0 cal, bX9_nameOf_1 cal, bX9_nameOf_2 cal, bX9_nameOf_3 cal, bX9_nameOf_4 cal, bX9_nameOf_5 cal, bX9_nameOf_6 cal, bX9_nameOf_7 cal, bX9_nameOf_8 cal, bX9_nameOf_9 cal, bX9_nameOf_10 cal, bX9_nameOf_11 cal, bX9_nameOf_12 cal, bX9_nameOf_13 cal, bX9_nameOf_14 cal]
set_option maxRecDepth 100000 in
theorem sX9_nameOf_0 {G : ab_G} {xs : List Int32} {d : Nat} {cal : ab_F} (hcs : ab_CS G (ab_Z G xs) ab_Mf cal d) : ab_Sd G (ab_Z G xs) (d + 1) (ab_mY mX9_nameOf pX9_nameOf) 0 (bX9_nameOf_0 cal) :=
  sn_aload_n dX9_nameOf_0 rfl <| sn_getf dX9_nameOf_1 rfl hinX9 (by decide) w_1006 <| sn_lsw dX9_nameOf_4 (by decide) rfl rfl (by decide)
set_option maxRecDepth 100000 in
theorem sX9_nameOf_1 {G : ab_G} {xs : List Int32} {d : Nat} {cal : ab_F} (hcs : ab_CS G (ab_Z G xs) ab_Mf cal d) : ab_Sd G (ab_Z G xs) (d + 1) (ab_mY mX9_nameOf pX9_nameOf) 32 (bX9_nameOf_1 cal) :=
  sn_iload_n dX9_nameOf_32 rfl <| sn_bipush dX9_nameOf_33 rfl <| sn_cmp_ne (tg := 42) dX9_nameOf_35 rfl rfl <| sn_iconst dX9_nameOf_38 rfl <| sn_goto (tg := 63) dX9_nameOf_39 rfl rfl
set_option maxRecDepth 100000 in
theorem sX9_nameOf_2 {G : ab_G} {xs : List Int32} {d : Nat} {cal : ab_F} (hcs : ab_CS G (ab_Z G xs) ab_Mf cal d) : ab_Sd G (ab_Z G xs) (d + 1) (ab_mY mX9_nameOf pX9_nameOf) 42 (bX9_nameOf_2 cal) :=
  sn_iload_n dX9_nameOf_42 rfl <| sn_bipush dX9_nameOf_43 rfl <| sn_cmp_ne (tg := 52) dX9_nameOf_45 rfl rfl <| sn_iconst dX9_nameOf_48 rfl <| sn_goto (tg := 63) dX9_nameOf_49 rfl rfl
set_option maxRecDepth 100000 in
theorem sX9_nameOf_3 {G : ab_G} {xs : List Int32} {d : Nat} {cal : ab_F} (hcs : ab_CS G (ab_Z G xs) ab_Mf cal d) : ab_Sd G (ab_Z G xs) (d + 1) (ab_mY mX9_nameOf pX9_nameOf) 52 (bX9_nameOf_3 cal) :=
  sn_iload_n dX9_nameOf_52 rfl <| sn_bipush dX9_nameOf_53 rfl <| sn_cmp_ne (tg := 62) dX9_nameOf_55 rfl rfl <| sn_iconst dX9_nameOf_58 rfl <| sn_goto (tg := 63) dX9_nameOf_59 rfl rfl
set_option maxRecDepth 100000 in
theorem sX9_nameOf_4 {G : ab_G} {xs : List Int32} {d : Nat} {cal : ab_F} (hcs : ab_CS G (ab_Z G xs) ab_Mf cal d) : ab_Sd G (ab_Z G xs) (d + 1) (ab_mY mX9_nameOf pX9_nameOf) 62 (bX9_nameOf_4 cal) :=
  sn_iconst dX9_nameOf_62 rfl <| sn_next rfl
set_option maxRecDepth 100000 in
theorem sX9_nameOf_5 {G : ab_G} {xs : List Int32} {d : Nat} {cal : ab_F} (hcs : ab_CS G (ab_Z G xs) ab_Mf cal d) : ab_Sd G (ab_Z G xs) (d + 1) (ab_mY mX9_nameOf pX9_nameOf) 63 (bX9_nameOf_5 cal) :=
  sn_ret dX9_nameOf_63 ab_ri_int
set_option maxRecDepth 100000 in
theorem sX9_nameOf_6 {G : ab_G} {xs : List Int32} {d : Nat} {cal : ab_F} (hcs : ab_CS G (ab_Z G xs) ab_Mf cal d) : ab_Sd G (ab_Z G xs) (d + 1) (ab_mY mX9_nameOf pX9_nameOf) 64 (bX9_nameOf_6 cal) :=
  sn_iload_n dX9_nameOf_64 rfl <| sn_bipush dX9_nameOf_65 rfl <| sn_cmp_ne (tg := 74) dX9_nameOf_67 rfl rfl <| sn_iconst dX9_nameOf_70 rfl <| sn_goto (tg := 85) dX9_nameOf_71 rfl rfl
set_option maxRecDepth 100000 in
theorem sX9_nameOf_7 {G : ab_G} {xs : List Int32} {d : Nat} {cal : ab_F} (hcs : ab_CS G (ab_Z G xs) ab_Mf cal d) : ab_Sd G (ab_Z G xs) (d + 1) (ab_mY mX9_nameOf pX9_nameOf) 74 (bX9_nameOf_7 cal) :=
  sn_iload_n dX9_nameOf_74 rfl <| sn_bipush dX9_nameOf_75 rfl <| sn_cmp_ne (tg := 84) dX9_nameOf_77 rfl rfl <| sn_iconst dX9_nameOf_80 rfl <| sn_goto (tg := 85) dX9_nameOf_81 rfl rfl
set_option maxRecDepth 100000 in
theorem sX9_nameOf_8 {G : ab_G} {xs : List Int32} {d : Nat} {cal : ab_F} (hcs : ab_CS G (ab_Z G xs) ab_Mf cal d) : ab_Sd G (ab_Z G xs) (d + 1) (ab_mY mX9_nameOf pX9_nameOf) 84 (bX9_nameOf_8 cal) :=
  sn_iconst dX9_nameOf_84 rfl <| sn_next rfl
set_option maxRecDepth 100000 in
theorem sX9_nameOf_9 {G : ab_G} {xs : List Int32} {d : Nat} {cal : ab_F} (hcs : ab_CS G (ab_Z G xs) ab_Mf cal d) : ab_Sd G (ab_Z G xs) (d + 1) (ab_mY mX9_nameOf pX9_nameOf) 85 (bX9_nameOf_9 cal) :=
  sn_ret dX9_nameOf_85 ab_ri_int
set_option maxRecDepth 100000 in
theorem sX9_nameOf_10 {G : ab_G} {xs : List Int32} {d : Nat} {cal : ab_F} (hcs : ab_CS G (ab_Z G xs) ab_Mf cal d) : ab_Sd G (ab_Z G xs) (d + 1) (ab_mY mX9_nameOf pX9_nameOf) 86 (bX9_nameOf_10 cal) :=
  sn_iload_n dX9_nameOf_86 rfl <| sn_bipush dX9_nameOf_87 rfl <| sn_cmp_ne (tg := 96) dX9_nameOf_89 rfl rfl <| sn_iconst dX9_nameOf_92 rfl <| sn_goto (tg := 117) dX9_nameOf_93 rfl rfl
set_option maxRecDepth 100000 in
theorem sX9_nameOf_11 {G : ab_G} {xs : List Int32} {d : Nat} {cal : ab_F} (hcs : ab_CS G (ab_Z G xs) ab_Mf cal d) : ab_Sd G (ab_Z G xs) (d + 1) (ab_mY mX9_nameOf pX9_nameOf) 96 (bX9_nameOf_11 cal) :=
  sn_iload_n dX9_nameOf_96 rfl <| sn_bipush dX9_nameOf_97 rfl <| sn_cmp_ne (tg := 106) dX9_nameOf_99 rfl rfl <| sn_iconst dX9_nameOf_102 rfl <| sn_goto (tg := 117) dX9_nameOf_103 rfl rfl
set_option maxRecDepth 100000 in
theorem sX9_nameOf_12 {G : ab_G} {xs : List Int32} {d : Nat} {cal : ab_F} (hcs : ab_CS G (ab_Z G xs) ab_Mf cal d) : ab_Sd G (ab_Z G xs) (d + 1) (ab_mY mX9_nameOf pX9_nameOf) 106 (bX9_nameOf_12 cal) :=
  sn_iload_n dX9_nameOf_106 rfl <| sn_bipush dX9_nameOf_107 rfl <| sn_cmp_ne (tg := 116) dX9_nameOf_109 rfl rfl <| sn_iconst dX9_nameOf_112 rfl <| sn_goto (tg := 117) dX9_nameOf_113 rfl rfl
set_option maxRecDepth 100000 in
theorem sX9_nameOf_13 {G : ab_G} {xs : List Int32} {d : Nat} {cal : ab_F} (hcs : ab_CS G (ab_Z G xs) ab_Mf cal d) : ab_Sd G (ab_Z G xs) (d + 1) (ab_mY mX9_nameOf pX9_nameOf) 116 (bX9_nameOf_13 cal) :=
  sn_iconst dX9_nameOf_116 rfl <| sn_next rfl
set_option maxRecDepth 100000 in
theorem sX9_nameOf_14 {G : ab_G} {xs : List Int32} {d : Nat} {cal : ab_F} (hcs : ab_CS G (ab_Z G xs) ab_Mf cal d) : ab_Sd G (ab_Z G xs) (d + 1) (ab_mY mX9_nameOf pX9_nameOf) 117 (bX9_nameOf_14 cal) :=
  sn_ret dX9_nameOf_117 ab_ri_int
theorem sX9_nameOf {G : ab_G} {xs : List Int32} {d : Nat} {cal : ab_F} (hcs : ab_CS G (ab_Z G xs) ab_Mf cal d) : ab_BS G (ab_Z G xs) (d + 1) (ab_mY mX9_nameOf pX9_nameOf) pX9_nameOf (bX9_nameOf cal) := ⟨sX9_nameOf_0 hcs, sX9_nameOf_1 hcs, sX9_nameOf_2 hcs, sX9_nameOf_3 hcs, sX9_nameOf_4 hcs, sX9_nameOf_5 hcs, sX9_nameOf_6 hcs, sX9_nameOf_7 hcs, sX9_nameOf_8 hcs, sX9_nameOf_9 hcs, sX9_nameOf_10 hcs, sX9_nameOf_11 hcs, sX9_nameOf_12 hcs, sX9_nameOf_13 hcs, sX9_nameOf_14 hcs, trivial⟩
theorem dgX9_rank_0 : decode cX9_rank 0 = .ok (.iload_n 0, 1) ∧ decode cX9_rank 1 = .ok (.iconst (-1), 1) ∧ decode cX9_rank 2 = .ok (.if_icmp .ne 7, 3) ∧ decode cX9_rank 5 = .ok (.iconst 1, 1) ∧ decode cX9_rank 6 = .ok (.goto 45, 3) ∧ decode cX9_rank 9 = .ok (.iload_n 0, 1) ∧ decode cX9_rank 10 = .ok (.bipush (-2), 2) ∧ decode cX9_rank 12 = .ok (.if_icmp .ne 7, 3) ∧ decode cX9_rank 15 = .ok (.iconst 2, 1) ∧ decode cX9_rank 16 = .ok (.goto 35, 3) ∧ decode cX9_rank 19 = .ok (.iload_n 0, 1) ∧ decode cX9_rank 20 = .ok (.bipush (-5), 2) ∧ decode cX9_rank 22 = .ok (.if_icmp .lt 7, 3) ∧ decode cX9_rank 25 = .ok (.iconst 3, 1) ∧ decode cX9_rank 26 = .ok (.goto 25, 3) ∧ decode cX9_rank 29 = .ok (.iload_n 0, 1) := by decide +kernel
theorem dX9_rank_0 : decode cX9_rank 0 = .ok (.iload_n 0, 1) := dgX9_rank_0.1
theorem dX9_rank_1 : decode cX9_rank 1 = .ok (.iconst (-1), 1) := dgX9_rank_0.2.1
theorem dX9_rank_2 : decode cX9_rank 2 = .ok (.if_icmp .ne 7, 3) := dgX9_rank_0.2.2.1
theorem dX9_rank_5 : decode cX9_rank 5 = .ok (.iconst 1, 1) := dgX9_rank_0.2.2.2.1
theorem dX9_rank_6 : decode cX9_rank 6 = .ok (.goto 45, 3) := dgX9_rank_0.2.2.2.2.1
theorem dX9_rank_9 : decode cX9_rank 9 = .ok (.iload_n 0, 1) := dgX9_rank_0.2.2.2.2.2.1
theorem dX9_rank_10 : decode cX9_rank 10 = .ok (.bipush (-2), 2) := dgX9_rank_0.2.2.2.2.2.2.1
theorem dX9_rank_12 : decode cX9_rank 12 = .ok (.if_icmp .ne 7, 3) := dgX9_rank_0.2.2.2.2.2.2.2.1
theorem dX9_rank_15 : decode cX9_rank 15 = .ok (.iconst 2, 1) := dgX9_rank_0.2.2.2.2.2.2.2.2.1
theorem dX9_rank_16 : decode cX9_rank 16 = .ok (.goto 35, 3) := dgX9_rank_0.2.2.2.2.2.2.2.2.2.1
theorem dX9_rank_19 : decode cX9_rank 19 = .ok (.iload_n 0, 1) := dgX9_rank_0.2.2.2.2.2.2.2.2.2.2.1
theorem dX9_rank_20 : decode cX9_rank 20 = .ok (.bipush (-5), 2) := dgX9_rank_0.2.2.2.2.2.2.2.2.2.2.2.1
theorem dX9_rank_22 : decode cX9_rank 22 = .ok (.if_icmp .lt 7, 3) := dgX9_rank_0.2.2.2.2.2.2.2.2.2.2.2.2.1
theorem dX9_rank_25 : decode cX9_rank 25 = .ok (.iconst 3, 1) := dgX9_rank_0.2.2.2.2.2.2.2.2.2.2.2.2.2.1
theorem dX9_rank_26 : decode cX9_rank 26 = .ok (.goto 25, 3) := dgX9_rank_0.2.2.2.2.2.2.2.2.2.2.2.2.2.2.1
theorem dX9_rank_29 : decode cX9_rank 29 = .ok (.iload_n 0, 1) := dgX9_rank_0.2.2.2.2.2.2.2.2.2.2.2.2.2.2.2
theorem dgX9_rank_1 : decode cX9_rank 30 = .ok (.bipush (-7), 2) ∧ decode cX9_rank 32 = .ok (.if_icmp .lt 7, 3) ∧ decode cX9_rank 35 = .ok (.iconst 4, 1) ∧ decode cX9_rank 36 = .ok (.goto 15, 3) ∧ decode cX9_rank 39 = .ok (.iload_n 0, 1) ∧ decode cX9_rank 40 = .ok (.bipush (-9), 2) ∧ decode cX9_rank 42 = .ok (.if_icmp .lt 7, 3) ∧ decode cX9_rank 45 = .ok (.iconst 5, 1) ∧ decode cX9_rank 46 = .ok (.goto 5, 3) ∧ decode cX9_rank 49 = .ok (.bipush 6, 2) ∧ decode cX9_rank 51 = .ok (.ireturn, 1) := by decide +kernel
theorem dX9_rank_30 : decode cX9_rank 30 = .ok (.bipush (-7), 2) := dgX9_rank_1.1
theorem dX9_rank_32 : decode cX9_rank 32 = .ok (.if_icmp .lt 7, 3) := dgX9_rank_1.2.1
theorem dX9_rank_35 : decode cX9_rank 35 = .ok (.iconst 4, 1) := dgX9_rank_1.2.2.1
theorem dX9_rank_36 : decode cX9_rank 36 = .ok (.goto 15, 3) := dgX9_rank_1.2.2.2.1
theorem dX9_rank_39 : decode cX9_rank 39 = .ok (.iload_n 0, 1) := dgX9_rank_1.2.2.2.2.1
theorem dX9_rank_40 : decode cX9_rank 40 = .ok (.bipush (-9), 2) := dgX9_rank_1.2.2.2.2.2.1
theorem dX9_rank_42 : decode cX9_rank 42 = .ok (.if_icmp .lt 7, 3) := dgX9_rank_1.2.2.2.2.2.2.1
theorem dX9_rank_45 : decode cX9_rank 45 = .ok (.iconst 5, 1) := dgX9_rank_1.2.2.2.2.2.2.2.1
theorem dX9_rank_46 : decode cX9_rank 46 = .ok (.goto 5, 3) := dgX9_rank_1.2.2.2.2.2.2.2.2.1
theorem dX9_rank_49 : decode cX9_rank 49 = .ok (.bipush 6, 2) := dgX9_rank_1.2.2.2.2.2.2.2.2.2.1
theorem dX9_rank_51 : decode cX9_rank 51 = .ok (.ireturn, 1) := dgX9_rank_1.2.2.2.2.2.2.2.2.2.2
abbrev pX9_rank : List Nat := [0, 9, 19, 29, 39, 49, 51]
def bX9_rank_0 (cal : ab_F) : ab_K := o_iload 0 <| o_push (.int (-1)) <| o_cmp (fun x y => decide (¬ x = y)) 1 <| o_push (.int 1) <| o_goto 6
def bX9_rank_1 (cal : ab_F) : ab_K := o_iload 0 <| o_push (.int (-2)) <| o_cmp (fun x y => decide (¬ x = y)) 2 <| o_push (.int 2) <| o_goto 6
def bX9_rank_2 (cal : ab_F) : ab_K := o_iload 0 <| o_push (.int (-5)) <| o_cmp (fun x y => decide (x < y)) 3 <| o_push (.int 3) <| o_goto 6
def bX9_rank_3 (cal : ab_F) : ab_K := o_iload 0 <| o_push (.int (-7)) <| o_cmp (fun x y => decide (x < y)) 4 <| o_push (.int 4) <| o_goto 6
def bX9_rank_4 (cal : ab_F) : ab_K := o_iload 0 <| o_push (.int (-9)) <| o_cmp (fun x y => decide (x < y)) 5 <| o_push (.int 5) <| o_goto 6
def bX9_rank_5 (cal : ab_F) : ab_K := o_push (.int 6) <| o_goto 6
def bX9_rank_6 (cal : ab_F) : ab_K := o_ret (some .int)
def bX9_rank (cal : ab_F) : List ab_K := [bX9_rank_0 cal, bX9_rank_1 cal, bX9_rank_2 cal, bX9_rank_3 cal, bX9_rank_4 cal, bX9_rank_5 cal, bX9_rank_6 cal]
set_option maxRecDepth 100000 in
theorem sX9_rank_0 {G : ab_G} {xs : List Int32} {d : Nat} {cal : ab_F} (hcs : ab_CS G (ab_Z G xs) ab_Mf cal d) : ab_Sd G (ab_Z G xs) (d + 1) (ab_mY mX9_rank pX9_rank) 0 (bX9_rank_0 cal) :=
  sn_iload_n dX9_rank_0 rfl <| sn_iconst dX9_rank_1 rfl <| sn_cmp_ne (tg := 9) dX9_rank_2 rfl rfl <| sn_iconst dX9_rank_5 rfl <| sn_goto (tg := 51) dX9_rank_6 rfl rfl
set_option maxRecDepth 100000 in
theorem sX9_rank_1 {G : ab_G} {xs : List Int32} {d : Nat} {cal : ab_F} (hcs : ab_CS G (ab_Z G xs) ab_Mf cal d) : ab_Sd G (ab_Z G xs) (d + 1) (ab_mY mX9_rank pX9_rank) 9 (bX9_rank_1 cal) :=
  sn_iload_n dX9_rank_9 rfl <| sn_bipush dX9_rank_10 rfl <| sn_cmp_ne (tg := 19) dX9_rank_12 rfl rfl <| sn_iconst dX9_rank_15 rfl <| sn_goto (tg := 51) dX9_rank_16 rfl rfl
set_option maxRecDepth 100000 in
theorem sX9_rank_2 {G : ab_G} {xs : List Int32} {d : Nat} {cal : ab_F} (hcs : ab_CS G (ab_Z G xs) ab_Mf cal d) : ab_Sd G (ab_Z G xs) (d + 1) (ab_mY mX9_rank pX9_rank) 19 (bX9_rank_2 cal) :=
  sn_iload_n dX9_rank_19 rfl <| sn_bipush dX9_rank_20 rfl <| sn_cmp_lt (tg := 29) dX9_rank_22 rfl rfl <| sn_iconst dX9_rank_25 rfl <| sn_goto (tg := 51) dX9_rank_26 rfl rfl
set_option maxRecDepth 100000 in
theorem sX9_rank_3 {G : ab_G} {xs : List Int32} {d : Nat} {cal : ab_F} (hcs : ab_CS G (ab_Z G xs) ab_Mf cal d) : ab_Sd G (ab_Z G xs) (d + 1) (ab_mY mX9_rank pX9_rank) 29 (bX9_rank_3 cal) :=
  sn_iload_n dX9_rank_29 rfl <| sn_bipush dX9_rank_30 rfl <| sn_cmp_lt (tg := 39) dX9_rank_32 rfl rfl <| sn_iconst dX9_rank_35 rfl <| sn_goto (tg := 51) dX9_rank_36 rfl rfl
set_option maxRecDepth 100000 in
theorem sX9_rank_4 {G : ab_G} {xs : List Int32} {d : Nat} {cal : ab_F} (hcs : ab_CS G (ab_Z G xs) ab_Mf cal d) : ab_Sd G (ab_Z G xs) (d + 1) (ab_mY mX9_rank pX9_rank) 39 (bX9_rank_4 cal) :=
  sn_iload_n dX9_rank_39 rfl <| sn_bipush dX9_rank_40 rfl <| sn_cmp_lt (tg := 49) dX9_rank_42 rfl rfl <| sn_iconst dX9_rank_45 rfl <| sn_goto (tg := 51) dX9_rank_46 rfl rfl
set_option maxRecDepth 100000 in
theorem sX9_rank_5 {G : ab_G} {xs : List Int32} {d : Nat} {cal : ab_F} (hcs : ab_CS G (ab_Z G xs) ab_Mf cal d) : ab_Sd G (ab_Z G xs) (d + 1) (ab_mY mX9_rank pX9_rank) 49 (bX9_rank_5 cal) :=
  sn_bipush dX9_rank_49 rfl <| sn_next rfl
set_option maxRecDepth 100000 in
theorem sX9_rank_6 {G : ab_G} {xs : List Int32} {d : Nat} {cal : ab_F} (hcs : ab_CS G (ab_Z G xs) ab_Mf cal d) : ab_Sd G (ab_Z G xs) (d + 1) (ab_mY mX9_rank pX9_rank) 51 (bX9_rank_6 cal) :=
  sn_ret dX9_rank_51 ab_ri_int
theorem sX9_rank {G : ab_G} {xs : List Int32} {d : Nat} {cal : ab_F} (hcs : ab_CS G (ab_Z G xs) ab_Mf cal d) : ab_BS G (ab_Z G xs) (d + 1) (ab_mY mX9_rank pX9_rank) pX9_rank (bX9_rank cal) := ⟨sX9_rank_0 hcs, sX9_rank_1 hcs, sX9_rank_2 hcs, sX9_rank_3 hcs, sX9_rank_4 hcs, sX9_rank_5 hcs, sX9_rank_6 hcs, trivial⟩
theorem dgX9_settle_0 : decode cX9_settle 0 = .ok (.aload_n 0, 1) ∧ decode cX9_settle 1 = .ok (.getfield 244, 3) ∧ decode cX9_settle 4 = .ok (.ifCond .le 78, 3) ∧ decode cX9_settle 7 = .ok (.aload_n 0, 1) ∧ decode cX9_settle 8 = .ok (.getfield 45, 3) ∧ decode cX9_settle 11 = .ok (.aload_n 0, 1) ∧ decode cX9_settle 12 = .ok (.getfield 244, 3) ∧ decode cX9_settle 15 = .ok (.iconst 1, 1) ∧ decode cX9_settle 16 = .ok (.isub, 1) ∧ decode cX9_settle 17 = .ok (.iaload, 1) ∧ decode cX9_settle 18 = .ok (.bipush (-11), 2) ∧ decode cX9_settle 20 = .ok (.if_icmp .eq 62, 3) ∧ decode cX9_settle 23 = .ok (.aload_n 0, 1) ∧ decode cX9_settle 24 = .ok (.getfield 45, 3) ∧ decode cX9_settle 27 = .ok (.aload_n 0, 1) ∧ decode cX9_settle 28 = .ok (.getfield 244, 3) := by decide +kernel
theorem dX9_settle_0 : decode cX9_settle 0 = .ok (.aload_n 0, 1) := dgX9_settle_0.1
theorem dX9_settle_1 : decode cX9_settle 1 = .ok (.getfield 244, 3) := dgX9_settle_0.2.1
theorem dX9_settle_4 : decode cX9_settle 4 = .ok (.ifCond .le 78, 3) := dgX9_settle_0.2.2.1
theorem dX9_settle_7 : decode cX9_settle 7 = .ok (.aload_n 0, 1) := dgX9_settle_0.2.2.2.1
theorem dX9_settle_8 : decode cX9_settle 8 = .ok (.getfield 45, 3) := dgX9_settle_0.2.2.2.2.1
theorem dX9_settle_11 : decode cX9_settle 11 = .ok (.aload_n 0, 1) := dgX9_settle_0.2.2.2.2.2.1
theorem dX9_settle_12 : decode cX9_settle 12 = .ok (.getfield 244, 3) := dgX9_settle_0.2.2.2.2.2.2.1
theorem dX9_settle_15 : decode cX9_settle 15 = .ok (.iconst 1, 1) := dgX9_settle_0.2.2.2.2.2.2.2.1
theorem dX9_settle_16 : decode cX9_settle 16 = .ok (.isub, 1) := dgX9_settle_0.2.2.2.2.2.2.2.2.1
theorem dX9_settle_17 : decode cX9_settle 17 = .ok (.iaload, 1) := dgX9_settle_0.2.2.2.2.2.2.2.2.2.1
theorem dX9_settle_18 : decode cX9_settle 18 = .ok (.bipush (-11), 2) := dgX9_settle_0.2.2.2.2.2.2.2.2.2.2.1
theorem dX9_settle_20 : decode cX9_settle 20 = .ok (.if_icmp .eq 62, 3) := dgX9_settle_0.2.2.2.2.2.2.2.2.2.2.2.1
theorem dX9_settle_23 : decode cX9_settle 23 = .ok (.aload_n 0, 1) := dgX9_settle_0.2.2.2.2.2.2.2.2.2.2.2.2.1
theorem dX9_settle_24 : decode cX9_settle 24 = .ok (.getfield 45, 3) := dgX9_settle_0.2.2.2.2.2.2.2.2.2.2.2.2.2.1
theorem dX9_settle_27 : decode cX9_settle 27 = .ok (.aload_n 0, 1) := dgX9_settle_0.2.2.2.2.2.2.2.2.2.2.2.2.2.2.1
theorem dX9_settle_28 : decode cX9_settle 28 = .ok (.getfield 244, 3) := dgX9_settle_0.2.2.2.2.2.2.2.2.2.2.2.2.2.2.2
theorem dgX9_settle_1 : decode cX9_settle 31 = .ok (.iconst 1, 1) ∧ decode cX9_settle 32 = .ok (.isub, 1) ∧ decode cX9_settle 33 = .ok (.iaload, 1) ∧ decode cX9_settle 34 = .ok (.invokestatic 247, 3) ∧ decode cX9_settle 37 = .ok (.iload_n 1, 1) ∧ decode cX9_settle 38 = .ok (.if_icmp .lt 44, 3) ∧ decode cX9_settle 41 = .ok (.aload_n 0, 1) ∧ decode cX9_settle 42 = .ok (.dup, 1) ∧ decode cX9_settle 43 = .ok (.getfield 244, 3) ∧ decode cX9_settle 46 = .ok (.iconst 1, 1) ∧ decode cX9_settle 47 = .ok (.isub, 1) ∧ decode cX9_settle 48 = .ok (.putfield 244, 3) ∧ decode cX9_settle 51 = .ok (.aload_n 0, 1) ∧ decode cX9_settle 52 = .ok (.getfield 42, 3) ∧ decode cX9_settle 55 = .ok (.aload_n 0, 1) ∧ decode cX9_settle 56 = .ok (.getfield 250, 3) := by decide +kernel
theorem dX9_settle_31 : decode cX9_settle 31 = .ok (.iconst 1, 1) := dgX9_settle_1.1
theorem dX9_settle_32 : decode cX9_settle 32 = .ok (.isub, 1) := dgX9_settle_1.2.1
theorem dX9_settle_33 : decode cX9_settle 33 = .ok (.iaload, 1) := dgX9_settle_1.2.2.1
theorem dX9_settle_34 : decode cX9_settle 34 = .ok (.invokestatic 247, 3) := dgX9_settle_1.2.2.2.1
theorem dX9_settle_37 : decode cX9_settle 37 = .ok (.iload_n 1, 1) := dgX9_settle_1.2.2.2.2.1
theorem dX9_settle_38 : decode cX9_settle 38 = .ok (.if_icmp .lt 44, 3) := dgX9_settle_1.2.2.2.2.2.1
theorem dX9_settle_41 : decode cX9_settle 41 = .ok (.aload_n 0, 1) := dgX9_settle_1.2.2.2.2.2.2.1
theorem dX9_settle_42 : decode cX9_settle 42 = .ok (.dup, 1) := dgX9_settle_1.2.2.2.2.2.2.2.1
theorem dX9_settle_43 : decode cX9_settle 43 = .ok (.getfield 244, 3) := dgX9_settle_1.2.2.2.2.2.2.2.2.1
theorem dX9_settle_46 : decode cX9_settle 46 = .ok (.iconst 1, 1) := dgX9_settle_1.2.2.2.2.2.2.2.2.2.1
theorem dX9_settle_47 : decode cX9_settle 47 = .ok (.isub, 1) := dgX9_settle_1.2.2.2.2.2.2.2.2.2.2.1
theorem dX9_settle_48 : decode cX9_settle 48 = .ok (.putfield 244, 3) := dgX9_settle_1.2.2.2.2.2.2.2.2.2.2.2.1
theorem dX9_settle_51 : decode cX9_settle 51 = .ok (.aload_n 0, 1) := dgX9_settle_1.2.2.2.2.2.2.2.2.2.2.2.2.1
theorem dX9_settle_52 : decode cX9_settle 52 = .ok (.getfield 42, 3) := dgX9_settle_1.2.2.2.2.2.2.2.2.2.2.2.2.2.1
theorem dX9_settle_55 : decode cX9_settle 55 = .ok (.aload_n 0, 1) := dgX9_settle_1.2.2.2.2.2.2.2.2.2.2.2.2.2.2.1
theorem dX9_settle_56 : decode cX9_settle 56 = .ok (.getfield 250, 3) := dgX9_settle_1.2.2.2.2.2.2.2.2.2.2.2.2.2.2.2
theorem dgX9_settle_2 : decode cX9_settle 59 = .ok (.aload_n 0, 1) ∧ decode cX9_settle 60 = .ok (.getfield 45, 3) ∧ decode cX9_settle 63 = .ok (.aload_n 0, 1) ∧ decode cX9_settle 64 = .ok (.getfield 244, 3) ∧ decode cX9_settle 67 = .ok (.iaload, 1) ∧ decode cX9_settle 68 = .ok (.iastore, 1) ∧ decode cX9_settle 69 = .ok (.aload_n 0, 1) ∧ decode cX9_settle 70 = .ok (.dup, 1) ∧ decode cX9_settle 71 = .ok (.getfield 250, 3) ∧ decode cX9_settle 74 = .ok (.iconst 1, 1) ∧ decode cX9_settle 75 = .ok (.iadd, 1) ∧ decode cX9_settle 76 = .ok (.putfield 250, 3) ∧ decode cX9_settle 79 = .ok (.goto (-79), 3) ∧ decode cX9_settle 82 = .ok (.return_, 1) := by decide +kernel
theorem dX9_settle_59 : decode cX9_settle 59 = .ok (.aload_n 0, 1) := dgX9_settle_2.1
theorem dX9_settle_60 : decode cX9_settle 60 = .ok (.getfield 45, 3) := dgX9_settle_2.2.1
theorem dX9_settle_63 : decode cX9_settle 63 = .ok (.aload_n 0, 1) := dgX9_settle_2.2.2.1
theorem dX9_settle_64 : decode cX9_settle 64 = .ok (.getfield 244, 3) := dgX9_settle_2.2.2.2.1
theorem dX9_settle_67 : decode cX9_settle 67 = .ok (.iaload, 1) := dgX9_settle_2.2.2.2.2.1
theorem dX9_settle_68 : decode cX9_settle 68 = .ok (.iastore, 1) := dgX9_settle_2.2.2.2.2.2.1
theorem dX9_settle_69 : decode cX9_settle 69 = .ok (.aload_n 0, 1) := dgX9_settle_2.2.2.2.2.2.2.1
theorem dX9_settle_70 : decode cX9_settle 70 = .ok (.dup, 1) := dgX9_settle_2.2.2.2.2.2.2.2.1
theorem dX9_settle_71 : decode cX9_settle 71 = .ok (.getfield 250, 3) := dgX9_settle_2.2.2.2.2.2.2.2.2.1
theorem dX9_settle_74 : decode cX9_settle 74 = .ok (.iconst 1, 1) := dgX9_settle_2.2.2.2.2.2.2.2.2.2.1
theorem dX9_settle_75 : decode cX9_settle 75 = .ok (.iadd, 1) := dgX9_settle_2.2.2.2.2.2.2.2.2.2.2.1
theorem dX9_settle_76 : decode cX9_settle 76 = .ok (.putfield 250, 3) := dgX9_settle_2.2.2.2.2.2.2.2.2.2.2.2.1
theorem dX9_settle_79 : decode cX9_settle 79 = .ok (.goto (-79), 3) := dgX9_settle_2.2.2.2.2.2.2.2.2.2.2.2.2.1
theorem dX9_settle_82 : decode cX9_settle 82 = .ok (.return_, 1) := dgX9_settle_2.2.2.2.2.2.2.2.2.2.2.2.2.2
abbrev pX9_settle : List Nat := [0, 82]
def bX9_settle_0 (cal : ab_F) : ab_K := o_aload 0 <| o_getf 8 22 <| o_if (fun x => decide (x ≤ 0)) 1 <| o_aload 0 <| o_getf 8 21 <| o_aload 0 <| o_getf 8 22 <| o_push (.int 1) <| o_bin (fun x y => x - y) <| o_iald 0 <| o_push (.int (-11)) <| o_cmp (fun x y => decide (x = y)) 1 <| o_aload 0 <| o_getf 8 21 <| o_aload 0 <| o_getf 8 22 <| o_push (.int 1) <| o_bin (fun x y => x - y) <| o_iald 0 <| o_callS cal 194 1 <| o_iload 1 <| o_cmp (fun x y => decide (x < y)) 1 <| o_aload 0 <| o_dup <| o_getf 8 22 <| o_push (.int 1) <| o_bin (fun x y => x - y) <| o_putI 8 22 <| o_aload 0 <| o_getf 8 18 <| o_aload 0 <| o_getf 8 19 <| o_aload 0 <| o_getf 8 21 <| o_aload 0 <| o_getf 8 22 <| o_iald 0 <| o_iast 0 (fun x => x) <| o_aload 0 <| o_dup <| o_getf 8 19 <| o_push (.int 1) <| o_bin (fun x y => x + y) <| o_putI 8 19 <| o_goto 0
def bX9_settle_1 (cal : ab_F) : ab_K := o_ret none
def bX9_settle (cal : ab_F) : List ab_K := [bX9_settle_0 cal, bX9_settle_1 cal]
set_option maxRecDepth 100000 in
theorem sX9_settle_0 {G : ab_G} {xs : List Int32} {d : Nat} {cal : ab_F} (hcs : ab_CS G (ab_Z G xs) ab_Mf cal d) : ab_Sd G (ab_Z G xs) (d + 1) (ab_mY mX9_settle pX9_settle) 0 (bX9_settle_0 cal) :=
  sn_aload_n dX9_settle_0 rfl <| sn_getf dX9_settle_1 rfl hinX9 (by decide) w_1013 <| sn_if_le (tg := 82) dX9_settle_4 rfl rfl <| sn_aload_n dX9_settle_7 rfl <| sn_getf dX9_settle_8 rfl hinX9 (by decide) w_1012 <| sn_aload_n dX9_settle_11 rfl <| sn_getf dX9_settle_12 rfl hinX9 (by decide) w_1013 <| sn_iconst dX9_settle_15 rfl <| sn_isub dX9_settle_16 <| sn_iald dX9_settle_17 rfl <| sn_bipush dX9_settle_18 rfl <| sn_cmp_eq (tg := 82) dX9_settle_20 rfl rfl <| sn_aload_n dX9_settle_23 rfl <| sn_getf dX9_settle_24 rfl hinX9 (by decide) w_1012 <| sn_aload_n dX9_settle_27 rfl <| sn_getf dX9_settle_28 rfl hinX9 (by decide) w_1013 <| sn_iconst dX9_settle_31 rfl <| sn_isub dX9_settle_32 <| sn_iald dX9_settle_33 rfl <| sq_callS mt_194 hcs dX9_settle_34 w_1393 w_1394 w_63 w_1395 hy_194 hm_194 <| sn_iload_n dX9_settle_37 rfl <| sn_cmp_lt (tg := 82) dX9_settle_38 rfl rfl <| sn_aload_n dX9_settle_41 rfl <| sn_dup dX9_settle_42 <| sn_getf dX9_settle_43 rfl hinX9 (by decide) w_1013 <| sn_iconst dX9_settle_46 rfl <| sn_isub dX9_settle_47 <| sn_putI tyX9 tyX9_ok nmX9 dX9_settle_48 rfl hinX9 (by decide) w_1013 (Or.inl rfl) (tyX9_ok 22 (by decide)) <| sn_aload_n dX9_settle_51 rfl <| sn_getf dX9_settle_52 rfl hinX9 (by decide) w_1009 <| sn_aload_n dX9_settle_55 rfl <| sn_getf dX9_settle_56 rfl hinX9 (by decide) w_1010 <| sn_aload_n dX9_settle_59 rfl <| sn_getf dX9_settle_60 rfl hinX9 (by decide) w_1012 <| sn_aload_n dX9_settle_63 rfl <| sn_getf dX9_settle_64 rfl hinX9 (by decide) w_1013 <| sn_iald dX9_settle_67 rfl <| sn_iast dX9_settle_68 rfl rfl <| sn_aload_n dX9_settle_69 rfl <| sn_dup dX9_settle_70 <| sn_getf dX9_settle_71 rfl hinX9 (by decide) w_1010 <| sn_iconst dX9_settle_74 rfl <| sn_iadd dX9_settle_75 <| sn_putI tyX9 tyX9_ok nmX9 dX9_settle_76 rfl hinX9 (by decide) w_1010 (Or.inl rfl) (tyX9_ok 19 (by decide)) <| sn_goto (tg := 0) dX9_settle_79 rfl rfl
set_option maxRecDepth 100000 in
theorem sX9_settle_1 {G : ab_G} {xs : List Int32} {d : Nat} {cal : ab_F} (hcs : ab_CS G (ab_Z G xs) ab_Mf cal d) : ab_Sd G (ab_Z G xs) (d + 1) (ab_mY mX9_settle pX9_settle) 82 (bX9_settle_1 cal) :=
  sn_ret dX9_settle_82 ab_ri_void
theorem sX9_settle {G : ab_G} {xs : List Int32} {d : Nat} {cal : ab_F} (hcs : ab_CS G (ab_Z G xs) ab_Mf cal d) : ab_BS G (ab_Z G xs) (d + 1) (ab_mY mX9_settle pX9_settle) pX9_settle (bX9_settle cal) := ⟨sX9_settle_0 hcs, sX9_settle_1 hcs, trivial⟩
theorem dgX9_signHere_0 : decode cX9_signHere 0 = .ok (.aload_n 0, 1) ∧ decode cX9_signHere 1 = .ok (.getfield 226, 3) ∧ decode cX9_signHere 4 = .ok (.iconst 3, 1) ∧ decode cX9_signHere 5 = .ok (.if_icmp .eq 5, 3) ∧ decode cX9_signHere 8 = .ok (.iconst 0, 1) ∧ decode cX9_signHere 9 = .ok (.ireturn, 1) ∧ decode cX9_signHere 10 = .ok (.aload_n 0, 1) ∧ decode cX9_signHere 11 = .ok (.getfield 232, 3) ∧ decode cX9_signHere 14 = .ok (.lookupswitch 108 #[(38, 84), (42, 102), (43, 96), (45, 99), (47, 105), (60, 87), (61, 90), (62, 93), (124, 82)], 82) ∧ decode cX9_signHere 96 = .ok (.iconst (-1), 1) ∧ decode cX9_signHere 97 = .ok (.ireturn, 1) ∧ decode cX9_signHere 98 = .ok (.bipush (-2), 2) ∧ decode cX9_signHere 100 = .ok (.ireturn, 1) ∧ decode cX9_signHere 101 = .ok (.bipush (-3), 2) ∧ decode cX9_signHere 103 = .ok (.ireturn, 1) ∧ decode cX9_signHere 104 = .ok (.bipush (-4), 2) := by decide +kernel
theorem dX9_signHere_0 : decode cX9_signHere 0 = .ok (.aload_n 0, 1) := dgX9_signHere_0.1
theorem dX9_signHere_1 : decode cX9_signHere 1 = .ok (.getfield 226, 3) := dgX9_signHere_0.2.1
theorem dX9_signHere_4 : decode cX9_signHere 4 = .ok (.iconst 3, 1) := dgX9_signHere_0.2.2.1
theorem dX9_signHere_5 : decode cX9_signHere 5 = .ok (.if_icmp .eq 5, 3) := dgX9_signHere_0.2.2.2.1
theorem dX9_signHere_8 : decode cX9_signHere 8 = .ok (.iconst 0, 1) := dgX9_signHere_0.2.2.2.2.1
theorem dX9_signHere_9 : decode cX9_signHere 9 = .ok (.ireturn, 1) := dgX9_signHere_0.2.2.2.2.2.1
theorem dX9_signHere_10 : decode cX9_signHere 10 = .ok (.aload_n 0, 1) := dgX9_signHere_0.2.2.2.2.2.2.1
theorem dX9_signHere_11 : decode cX9_signHere 11 = .ok (.getfield 232, 3) := dgX9_signHere_0.2.2.2.2.2.2.2.1
theorem dX9_signHere_14 : decode cX9_signHere 14 = .ok (.lookupswitch 108 #[(38, 84), (42, 102), (43, 96), (45, 99), (47, 105), (60, 87), (61, 90), (62, 93), (124, 82)], 82) := dgX9_signHere_0.2.2.2.2.2.2.2.2.1
theorem dX9_signHere_96 : decode cX9_signHere 96 = .ok (.iconst (-1), 1) := dgX9_signHere_0.2.2.2.2.2.2.2.2.2.1
theorem dX9_signHere_97 : decode cX9_signHere 97 = .ok (.ireturn, 1) := dgX9_signHere_0.2.2.2.2.2.2.2.2.2.2.1
theorem dX9_signHere_98 : decode cX9_signHere 98 = .ok (.bipush (-2), 2) := dgX9_signHere_0.2.2.2.2.2.2.2.2.2.2.2.1
theorem dX9_signHere_100 : decode cX9_signHere 100 = .ok (.ireturn, 1) := dgX9_signHere_0.2.2.2.2.2.2.2.2.2.2.2.2.1
theorem dX9_signHere_101 : decode cX9_signHere 101 = .ok (.bipush (-3), 2) := dgX9_signHere_0.2.2.2.2.2.2.2.2.2.2.2.2.2.1
theorem dX9_signHere_103 : decode cX9_signHere 103 = .ok (.ireturn, 1) := dgX9_signHere_0.2.2.2.2.2.2.2.2.2.2.2.2.2.2.1
theorem dX9_signHere_104 : decode cX9_signHere 104 = .ok (.bipush (-4), 2) := dgX9_signHere_0.2.2.2.2.2.2.2.2.2.2.2.2.2.2.2
theorem dgX9_signHere_1 : decode cX9_signHere 106 = .ok (.ireturn, 1) ∧ decode cX9_signHere 107 = .ok (.bipush (-5), 2) ∧ decode cX9_signHere 109 = .ok (.ireturn, 1) ∧ decode cX9_signHere 110 = .ok (.bipush (-6), 2) ∧ decode cX9_signHere 112 = .ok (.ireturn, 1) ∧ decode cX9_signHere 113 = .ok (.bipush (-7), 2) ∧ decode cX9_signHere 115 = .ok (.ireturn, 1) ∧ decode cX9_signHere 116 = .ok (.bipush (-8), 2) ∧ decode cX9_signHere 118 = .ok (.ireturn, 1) ∧ decode cX9_signHere 119 = .ok (.bipush (-9), 2) ∧ decode cX9_signHere 121 = .ok (.ireturn, 1) ∧ decode cX9_signHere 122 = .ok (.iconst 0, 1) ∧ decode cX9_signHere 123 = .ok (.ireturn, 1) := by decide +kernel
theorem dX9_signHere_106 : decode cX9_signHere 106 = .ok (.ireturn, 1) := dgX9_signHere_1.1
theorem dX9_signHere_107 : decode cX9_signHere 107 = .ok (.bipush (-5), 2) := dgX9_signHere_1.2.1
theorem dX9_signHere_109 : decode cX9_signHere 109 = .ok (.ireturn, 1) := dgX9_signHere_1.2.2.1
theorem dX9_signHere_110 : decode cX9_signHere 110 = .ok (.bipush (-6), 2) := dgX9_signHere_1.2.2.2.1
theorem dX9_signHere_112 : decode cX9_signHere 112 = .ok (.ireturn, 1) := dgX9_signHere_1.2.2.2.2.1
theorem dX9_signHere_113 : decode cX9_signHere 113 = .ok (.bipush (-7), 2) := dgX9_signHere_1.2.2.2.2.2.1
theorem dX9_signHere_115 : decode cX9_signHere 115 = .ok (.ireturn, 1) := dgX9_signHere_1.2.2.2.2.2.2.1
theorem dX9_signHere_116 : decode cX9_signHere 116 = .ok (.bipush (-8), 2) := dgX9_signHere_1.2.2.2.2.2.2.2.1
theorem dX9_signHere_118 : decode cX9_signHere 118 = .ok (.ireturn, 1) := dgX9_signHere_1.2.2.2.2.2.2.2.2.1
theorem dX9_signHere_119 : decode cX9_signHere 119 = .ok (.bipush (-9), 2) := dgX9_signHere_1.2.2.2.2.2.2.2.2.2.1
theorem dX9_signHere_121 : decode cX9_signHere 121 = .ok (.ireturn, 1) := dgX9_signHere_1.2.2.2.2.2.2.2.2.2.2.1
theorem dX9_signHere_122 : decode cX9_signHere 122 = .ok (.iconst 0, 1) := dgX9_signHere_1.2.2.2.2.2.2.2.2.2.2.2.1
theorem dX9_signHere_123 : decode cX9_signHere 123 = .ok (.ireturn, 1) := dgX9_signHere_1.2.2.2.2.2.2.2.2.2.2.2.2
abbrev pX9_signHere : List Nat := [0, 10, 96, 98, 101, 104, 107, 110, 113, 116, 119, 122]
def bX9_signHere_0 (cal : ab_F) : ab_K := o_aload 0 <| o_getf 8 12 <| o_push (.int 3) <| o_cmp (fun x y => decide (x = y)) 1 <| o_push (.int 0) <| o_ret (some .int)
def bX9_signHere_1 (cal : ab_F) : ab_K := o_aload 0 <| o_getf 8 13 <| o_sw (fun x => ab_lsw [(38, 3), (42, 9), (43, 7), (45, 8), (47, 10), (60, 4), (61, 5), (62, 6), (124, 2)] 11 x.toInt)
def bX9_signHere_2 (cal : ab_F) : ab_K := o_push (.int (-1)) <| o_ret (some .int)
def bX9_signHere_3 (cal : ab_F) : ab_K := o_push (.int (-2)) <| o_ret (some .int)
def bX9_signHere_4 (cal : ab_F) : ab_K := o_push (.int (-3)) <| o_ret (some .int)
def bX9_signHere_5 (cal : ab_F) : ab_K := o_push (.int (-4)) <| o_ret (some .int)
def bX9_signHere_6 (cal : ab_F) : ab_K := o_push (.int (-5)) <| o_ret (some .int)
def bX9_signHere_7 (cal : ab_F) : ab_K := o_push (.int (-6)) <| o_ret (some .int)
def bX9_signHere_8 (cal : ab_F) : ab_K := o_push (.int (-7)) <| o_ret (some .int)
def bX9_signHere_9 (cal : ab_F) : ab_K := o_push (.int (-8)) <| o_ret (some .int)
def bX9_signHere_10 (cal : ab_F) : ab_K := o_push (.int (-9)) <| o_ret (some .int)
def bX9_signHere_11 (cal : ab_F) : ab_K := o_push (.int 0) <| o_ret (some .int)
def bX9_signHere (cal : ab_F) : List ab_K := [bX9_signHere_0 cal, bX9_signHere_1 cal, bX9_signHere_2 cal, bX9_signHere_3 cal, bX9_signHere_4 cal, bX9_signHere_5 cal, bX9_signHere_6 cal, bX9_signHere_7 cal, bX9_signHere_8 cal, bX9_signHere_9 cal, bX9_signHere_10 cal, bX9_signHere_11 cal]
set_option maxRecDepth 100000 in
theorem sX9_signHere_0 {G : ab_G} {xs : List Int32} {d : Nat} {cal : ab_F} (hcs : ab_CS G (ab_Z G xs) ab_Mf cal d) : ab_Sd G (ab_Z G xs) (d + 1) (ab_mY mX9_signHere pX9_signHere) 0 (bX9_signHere_0 cal) :=
  sn_aload_n dX9_signHere_0 rfl <| sn_getf dX9_signHere_1 rfl hinX9 (by decide) w_1003 <| sn_iconst dX9_signHere_4 rfl <| sn_cmp_eq (tg := 10) dX9_signHere_5 rfl rfl <| sn_iconst dX9_signHere_8 rfl <| sn_ret dX9_signHere_9 ab_ri_int
set_option maxRecDepth 100000 in
theorem sX9_signHere_1 {G : ab_G} {xs : List Int32} {d : Nat} {cal : ab_F} (hcs : ab_CS G (ab_Z G xs) ab_Mf cal d) : ab_Sd G (ab_Z G xs) (d + 1) (ab_mY mX9_signHere pX9_signHere) 10 (bX9_signHere_1 cal) :=
  sn_aload_n dX9_signHere_10 rfl <| sn_getf dX9_signHere_11 rfl hinX9 (by decide) w_1004 <| sn_lsw dX9_signHere_14 (by decide) rfl rfl (by decide)
set_option maxRecDepth 100000 in
theorem sX9_signHere_2 {G : ab_G} {xs : List Int32} {d : Nat} {cal : ab_F} (hcs : ab_CS G (ab_Z G xs) ab_Mf cal d) : ab_Sd G (ab_Z G xs) (d + 1) (ab_mY mX9_signHere pX9_signHere) 96 (bX9_signHere_2 cal) :=
  sn_iconst dX9_signHere_96 rfl <| sn_ret dX9_signHere_97 ab_ri_int
set_option maxRecDepth 100000 in
theorem sX9_signHere_3 {G : ab_G} {xs : List Int32} {d : Nat} {cal : ab_F} (hcs : ab_CS G (ab_Z G xs) ab_Mf cal d) : ab_Sd G (ab_Z G xs) (d + 1) (ab_mY mX9_signHere pX9_signHere) 98 (bX9_signHere_3 cal) :=
  sn_bipush dX9_signHere_98 rfl <| sn_ret dX9_signHere_100 ab_ri_int
set_option maxRecDepth 100000 in
theorem sX9_signHere_4 {G : ab_G} {xs : List Int32} {d : Nat} {cal : ab_F} (hcs : ab_CS G (ab_Z G xs) ab_Mf cal d) : ab_Sd G (ab_Z G xs) (d + 1) (ab_mY mX9_signHere pX9_signHere) 101 (bX9_signHere_4 cal) :=
  sn_bipush dX9_signHere_101 rfl <| sn_ret dX9_signHere_103 ab_ri_int
set_option maxRecDepth 100000 in
theorem sX9_signHere_5 {G : ab_G} {xs : List Int32} {d : Nat} {cal : ab_F} (hcs : ab_CS G (ab_Z G xs) ab_Mf cal d) : ab_Sd G (ab_Z G xs) (d + 1) (ab_mY mX9_signHere pX9_signHere) 104 (bX9_signHere_5 cal) :=
  sn_bipush dX9_signHere_104 rfl <| sn_ret dX9_signHere_106 ab_ri_int
set_option maxRecDepth 100000 in
theorem sX9_signHere_6 {G : ab_G} {xs : List Int32} {d : Nat} {cal : ab_F} (hcs : ab_CS G (ab_Z G xs) ab_Mf cal d) : ab_Sd G (ab_Z G xs) (d + 1) (ab_mY mX9_signHere pX9_signHere) 107 (bX9_signHere_6 cal) :=
  sn_bipush dX9_signHere_107 rfl <| sn_ret dX9_signHere_109 ab_ri_int
set_option maxRecDepth 100000 in
theorem sX9_signHere_7 {G : ab_G} {xs : List Int32} {d : Nat} {cal : ab_F} (hcs : ab_CS G (ab_Z G xs) ab_Mf cal d) : ab_Sd G (ab_Z G xs) (d + 1) (ab_mY mX9_signHere pX9_signHere) 110 (bX9_signHere_7 cal) :=
  sn_bipush dX9_signHere_110 rfl <| sn_ret dX9_signHere_112 ab_ri_int
set_option maxRecDepth 100000 in
theorem sX9_signHere_8 {G : ab_G} {xs : List Int32} {d : Nat} {cal : ab_F} (hcs : ab_CS G (ab_Z G xs) ab_Mf cal d) : ab_Sd G (ab_Z G xs) (d + 1) (ab_mY mX9_signHere pX9_signHere) 113 (bX9_signHere_8 cal) :=
  sn_bipush dX9_signHere_113 rfl <| sn_ret dX9_signHere_115 ab_ri_int
set_option maxRecDepth 100000 in
theorem sX9_signHere_9 {G : ab_G} {xs : List Int32} {d : Nat} {cal : ab_F} (hcs : ab_CS G (ab_Z G xs) ab_Mf cal d) : ab_Sd G (ab_Z G xs) (d + 1) (ab_mY mX9_signHere pX9_signHere) 116 (bX9_signHere_9 cal) :=
  sn_bipush dX9_signHere_116 rfl <| sn_ret dX9_signHere_118 ab_ri_int
set_option maxRecDepth 100000 in
theorem sX9_signHere_10 {G : ab_G} {xs : List Int32} {d : Nat} {cal : ab_F} (hcs : ab_CS G (ab_Z G xs) ab_Mf cal d) : ab_Sd G (ab_Z G xs) (d + 1) (ab_mY mX9_signHere pX9_signHere) 119 (bX9_signHere_10 cal) :=
  sn_bipush dX9_signHere_119 rfl <| sn_ret dX9_signHere_121 ab_ri_int
set_option maxRecDepth 100000 in
theorem sX9_signHere_11 {G : ab_G} {xs : List Int32} {d : Nat} {cal : ab_F} (hcs : ab_CS G (ab_Z G xs) ab_Mf cal d) : ab_Sd G (ab_Z G xs) (d + 1) (ab_mY mX9_signHere pX9_signHere) 122 (bX9_signHere_11 cal) :=
  sn_iconst dX9_signHere_122 rfl <| sn_ret dX9_signHere_123 ab_ri_int
theorem sX9_signHere {G : ab_G} {xs : List Int32} {d : Nat} {cal : ab_F} (hcs : ab_CS G (ab_Z G xs) ab_Mf cal d) : ab_BS G (ab_Z G xs) (d + 1) (ab_mY mX9_signHere pX9_signHere) pX9_signHere (bX9_signHere cal) := ⟨sX9_signHere_0 hcs, sX9_signHere_1 hcs, sX9_signHere_2 hcs, sX9_signHere_3 hcs, sX9_signHere_4 hcs, sX9_signHere_5 hcs, sX9_signHere_6 hcs, sX9_signHere_7 hcs, sX9_signHere_8 hcs, sX9_signHere_9 hcs, sX9_signHere_10 hcs, sX9_signHere_11 hcs, trivial⟩
theorem dgX9_takesPart_0 : decode cX9_takesPart 0 = .ok (.aload_n 0, 1) ∧ decode cX9_takesPart 1 = .ok (.getfield 226, 3) ∧ decode cX9_takesPart 4 = .ok (.iconst 1, 1) ∧ decode cX9_takesPart 5 = .ok (.if_icmp .ne 31, 3) ∧ decode cX9_takesPart 8 = .ok (.aload_n 0, 1) ∧ decode cX9_takesPart 9 = .ok (.getfield 217, 3) ∧ decode cX9_takesPart 12 = .ok (.aload_n 0, 1) ∧ decode cX9_takesPart 13 = .ok (.getfield 220, 3) ∧ decode cX9_takesPart 16 = .ok (.isub, 1) ∧ decode cX9_takesPart 17 = .ok (.iconst 1, 1) ∧ decode cX9_takesPart 18 = .ok (.if_icmp .ne 18, 3) ∧ decode cX9_takesPart 21 = .ok (.aload_n 0, 1) ∧ decode cX9_takesPart 22 = .ok (.aload_n 0, 1) ∧ decode cX9_takesPart 23 = .ok (.getfield 232, 3) ∧ decode cX9_takesPart 26 = .ok (.invokevirtual 253, 3) ∧ decode cX9_takesPart 29 = .ok (.ifCond .lt 7, 3) := by decide +kernel
theorem dX9_takesPart_0 : decode cX9_takesPart 0 = .ok (.aload_n 0, 1) := dgX9_takesPart_0.1
theorem dX9_takesPart_1 : decode cX9_takesPart 1 = .ok (.getfield 226, 3) := dgX9_takesPart_0.2.1
theorem dX9_takesPart_4 : decode cX9_takesPart 4 = .ok (.iconst 1, 1) := dgX9_takesPart_0.2.2.1
theorem dX9_takesPart_5 : decode cX9_takesPart 5 = .ok (.if_icmp .ne 31, 3) := dgX9_takesPart_0.2.2.2.1
theorem dX9_takesPart_8 : decode cX9_takesPart 8 = .ok (.aload_n 0, 1) := dgX9_takesPart_0.2.2.2.2.1
theorem dX9_takesPart_9 : decode cX9_takesPart 9 = .ok (.getfield 217, 3) := dgX9_takesPart_0.2.2.2.2.2.1
theorem dX9_takesPart_12 : decode cX9_takesPart 12 = .ok (.aload_n 0, 1) := dgX9_takesPart_0.2.2.2.2.2.2.1
theorem dX9_takesPart_13 : decode cX9_takesPart 13 = .ok (.getfield 220, 3) := dgX9_takesPart_0.2.2.2.2.2.2.2.1
theorem dX9_takesPart_16 : decode cX9_takesPart 16 = .ok (.isub, 1) := dgX9_takesPart_0.2.2.2.2.2.2.2.2.1
theorem dX9_takesPart_17 : decode cX9_takesPart 17 = .ok (.iconst 1, 1) := dgX9_takesPart_0.2.2.2.2.2.2.2.2.2.1
theorem dX9_takesPart_18 : decode cX9_takesPart 18 = .ok (.if_icmp .ne 18, 3) := dgX9_takesPart_0.2.2.2.2.2.2.2.2.2.2.1
theorem dX9_takesPart_21 : decode cX9_takesPart 21 = .ok (.aload_n 0, 1) := dgX9_takesPart_0.2.2.2.2.2.2.2.2.2.2.2.1
theorem dX9_takesPart_22 : decode cX9_takesPart 22 = .ok (.aload_n 0, 1) := dgX9_takesPart_0.2.2.2.2.2.2.2.2.2.2.2.2.1
theorem dX9_takesPart_23 : decode cX9_takesPart 23 = .ok (.getfield 232, 3) := dgX9_takesPart_0.2.2.2.2.2.2.2.2.2.2.2.2.2.1
theorem dX9_takesPart_26 : decode cX9_takesPart 26 = .ok (.invokevirtual 253, 3) := dgX9_takesPart_0.2.2.2.2.2.2.2.2.2.2.2.2.2.2.1
theorem dX9_takesPart_29 : decode cX9_takesPart 29 = .ok (.ifCond .lt 7, 3) := dgX9_takesPart_0.2.2.2.2.2.2.2.2.2.2.2.2.2.2.2
theorem dgX9_takesPart_1 : decode cX9_takesPart 32 = .ok (.iconst 1, 1) ∧ decode cX9_takesPart 33 = .ok (.goto 4, 3) ∧ decode cX9_takesPart 36 = .ok (.iconst 0, 1) ∧ decode cX9_takesPart 37 = .ok (.istore_n 1, 1) ∧ decode cX9_takesPart 38 = .ok (.aload_n 0, 1) ∧ decode cX9_takesPart 39 = .ok (.getfield 226, 3) ∧ decode cX9_takesPart 42 = .ok (.iconst 2, 1) ∧ decode cX9_takesPart 43 = .ok (.if_icmp .eq 9, 3) ∧ decode cX9_takesPart 46 = .ok (.iload_n 1, 1) ∧ decode cX9_takesPart 47 = .ok (.ifCond .ne 5, 3) ∧ decode cX9_takesPart 50 = .ok (.iconst 0, 1) ∧ decode cX9_takesPart 51 = .ok (.ireturn, 1) ∧ decode cX9_takesPart 52 = .ok (.aload_n 0, 1) ∧ decode cX9_takesPart 53 = .ok (.getfield 42, 3) ∧ decode cX9_takesPart 56 = .ok (.aload_n 0, 1) ∧ decode cX9_takesPart 57 = .ok (.getfield 250, 3) := by decide +kernel
theorem dX9_takesPart_32 : decode cX9_takesPart 32 = .ok (.iconst 1, 1) := dgX9_takesPart_1.1
theorem dX9_takesPart_33 : decode cX9_takesPart 33 = .ok (.goto 4, 3) := dgX9_takesPart_1.2.1
theorem dX9_takesPart_36 : decode cX9_takesPart 36 = .ok (.iconst 0, 1) := dgX9_takesPart_1.2.2.1
theorem dX9_takesPart_37 : decode cX9_takesPart 37 = .ok (.istore_n 1, 1) := dgX9_takesPart_1.2.2.2.1
theorem dX9_takesPart_38 : decode cX9_takesPart 38 = .ok (.aload_n 0, 1) := dgX9_takesPart_1.2.2.2.2.1
theorem dX9_takesPart_39 : decode cX9_takesPart 39 = .ok (.getfield 226, 3) := dgX9_takesPart_1.2.2.2.2.2.1
theorem dX9_takesPart_42 : decode cX9_takesPart 42 = .ok (.iconst 2, 1) := dgX9_takesPart_1.2.2.2.2.2.2.1
theorem dX9_takesPart_43 : decode cX9_takesPart 43 = .ok (.if_icmp .eq 9, 3) := dgX9_takesPart_1.2.2.2.2.2.2.2.1
theorem dX9_takesPart_46 : decode cX9_takesPart 46 = .ok (.iload_n 1, 1) := dgX9_takesPart_1.2.2.2.2.2.2.2.2.1
theorem dX9_takesPart_47 : decode cX9_takesPart 47 = .ok (.ifCond .ne 5, 3) := dgX9_takesPart_1.2.2.2.2.2.2.2.2.2.1
theorem dX9_takesPart_50 : decode cX9_takesPart 50 = .ok (.iconst 0, 1) := dgX9_takesPart_1.2.2.2.2.2.2.2.2.2.2.1
theorem dX9_takesPart_51 : decode cX9_takesPart 51 = .ok (.ireturn, 1) := dgX9_takesPart_1.2.2.2.2.2.2.2.2.2.2.2.1
theorem dX9_takesPart_52 : decode cX9_takesPart 52 = .ok (.aload_n 0, 1) := dgX9_takesPart_1.2.2.2.2.2.2.2.2.2.2.2.2.1
theorem dX9_takesPart_53 : decode cX9_takesPart 53 = .ok (.getfield 42, 3) := dgX9_takesPart_1.2.2.2.2.2.2.2.2.2.2.2.2.2.1
theorem dX9_takesPart_56 : decode cX9_takesPart 56 = .ok (.aload_n 0, 1) := dgX9_takesPart_1.2.2.2.2.2.2.2.2.2.2.2.2.2.2.1
theorem dX9_takesPart_57 : decode cX9_takesPart 57 = .ok (.getfield 250, 3) := dgX9_takesPart_1.2.2.2.2.2.2.2.2.2.2.2.2.2.2.2
theorem dgX9_takesPart_2 : decode cX9_takesPart 60 = .ok (.aload_n 0, 1) ∧ decode cX9_takesPart 61 = .ok (.getfield 226, 3) ∧ decode cX9_takesPart 64 = .ok (.iconst 2, 1) ∧ decode cX9_takesPart 65 = .ok (.if_icmp .ne 10, 3) ∧ decode cX9_takesPart 68 = .ok (.aload_n 0, 1) ∧ decode cX9_takesPart 69 = .ok (.getfield 232, 3) ∧ decode cX9_takesPart 72 = .ok (.goto 15, 3) ∧ decode cX9_takesPart 75 = .ok (.sipush 10000, 3) ∧ decode cX9_takesPart 78 = .ok (.aload_n 0, 1) ∧ decode cX9_takesPart 79 = .ok (.aload_n 0, 1) ∧ decode cX9_takesPart 80 = .ok (.getfield 232, 3) ∧ decode cX9_takesPart 83 = .ok (.invokevirtual 253, 3) ∧ decode cX9_takesPart 86 = .ok (.iadd, 1) ∧ decode cX9_takesPart 87 = .ok (.iastore, 1) ∧ decode cX9_takesPart 88 = .ok (.aload_n 0, 1) ∧ decode cX9_takesPart 89 = .ok (.dup, 1) := by decide +kernel
theorem dX9_takesPart_60 : decode cX9_takesPart 60 = .ok (.aload_n 0, 1) := dgX9_takesPart_2.1
theorem dX9_takesPart_61 : decode cX9_takesPart 61 = .ok (.getfield 226, 3) := dgX9_takesPart_2.2.1
theorem dX9_takesPart_64 : decode cX9_takesPart 64 = .ok (.iconst 2, 1) := dgX9_takesPart_2.2.2.1
theorem dX9_takesPart_65 : decode cX9_takesPart 65 = .ok (.if_icmp .ne 10, 3) := dgX9_takesPart_2.2.2.2.1
theorem dX9_takesPart_68 : decode cX9_takesPart 68 = .ok (.aload_n 0, 1) := dgX9_takesPart_2.2.2.2.2.1
theorem dX9_takesPart_69 : decode cX9_takesPart 69 = .ok (.getfield 232, 3) := dgX9_takesPart_2.2.2.2.2.2.1
theorem dX9_takesPart_72 : decode cX9_takesPart 72 = .ok (.goto 15, 3) := dgX9_takesPart_2.2.2.2.2.2.2.1
theorem dX9_takesPart_75 : decode cX9_takesPart 75 = .ok (.sipush 10000, 3) := dgX9_takesPart_2.2.2.2.2.2.2.2.1
theorem dX9_takesPart_78 : decode cX9_takesPart 78 = .ok (.aload_n 0, 1) := dgX9_takesPart_2.2.2.2.2.2.2.2.2.1
theorem dX9_takesPart_79 : decode cX9_takesPart 79 = .ok (.aload_n 0, 1) := dgX9_takesPart_2.2.2.2.2.2.2.2.2.2.1
theorem dX9_takesPart_80 : decode cX9_takesPart 80 = .ok (.getfield 232, 3) := dgX9_takesPart_2.2.2.2.2.2.2.2.2.2.2.1
theorem dX9_takesPart_83 : decode cX9_takesPart 83 = .ok (.invokevirtual 253, 3) := dgX9_takesPart_2.2.2.2.2.2.2.2.2.2.2.2.1
theorem dX9_takesPart_86 : decode cX9_takesPart 86 = .ok (.iadd, 1) := dgX9_takesPart_2.2.2.2.2.2.2.2.2.2.2.2.2.1
theorem dX9_takesPart_87 : decode cX9_takesPart 87 = .ok (.iastore, 1) := dgX9_takesPart_2.2.2.2.2.2.2.2.2.2.2.2.2.2.1
theorem dX9_takesPart_88 : decode cX9_takesPart 88 = .ok (.aload_n 0, 1) := dgX9_takesPart_2.2.2.2.2.2.2.2.2.2.2.2.2.2.2.1
theorem dX9_takesPart_89 : decode cX9_takesPart 89 = .ok (.dup, 1) := dgX9_takesPart_2.2.2.2.2.2.2.2.2.2.2.2.2.2.2.2
theorem dgX9_takesPart_3 : decode cX9_takesPart 90 = .ok (.getfield 250, 3) ∧ decode cX9_takesPart 93 = .ok (.iconst 1, 1) ∧ decode cX9_takesPart 94 = .ok (.iadd, 1) ∧ decode cX9_takesPart 95 = .ok (.putfield 250, 3) ∧ decode cX9_takesPart 98 = .ok (.aload_n 0, 1) ∧ decode cX9_takesPart 99 = .ok (.dup, 1) ∧ decode cX9_takesPart 100 = .ok (.getfield 256, 3) ∧ decode cX9_takesPart 103 = .ok (.iconst 1, 1) ∧ decode cX9_takesPart 104 = .ok (.iadd, 1) ∧ decode cX9_takesPart 105 = .ok (.putfield 256, 3) ∧ decode cX9_takesPart 108 = .ok (.aload_n 0, 1) ∧ decode cX9_takesPart 109 = .ok (.bipush 6, 2) ∧ decode cX9_takesPart 111 = .ok (.invokevirtual 259, 3) ∧ decode cX9_takesPart 114 = .ok (.aload_n 0, 1) ∧ decode cX9_takesPart 115 = .ok (.invokevirtual 241, 3) ∧ decode cX9_takesPart 118 = .ok (.iconst 1, 1) := by decide +kernel
theorem dX9_takesPart_90 : decode cX9_takesPart 90 = .ok (.getfield 250, 3) := dgX9_takesPart_3.1
theorem dX9_takesPart_93 : decode cX9_takesPart 93 = .ok (.iconst 1, 1) := dgX9_takesPart_3.2.1
theorem dX9_takesPart_94 : decode cX9_takesPart 94 = .ok (.iadd, 1) := dgX9_takesPart_3.2.2.1
theorem dX9_takesPart_95 : decode cX9_takesPart 95 = .ok (.putfield 250, 3) := dgX9_takesPart_3.2.2.2.1
theorem dX9_takesPart_98 : decode cX9_takesPart 98 = .ok (.aload_n 0, 1) := dgX9_takesPart_3.2.2.2.2.1
theorem dX9_takesPart_99 : decode cX9_takesPart 99 = .ok (.dup, 1) := dgX9_takesPart_3.2.2.2.2.2.1
theorem dX9_takesPart_100 : decode cX9_takesPart 100 = .ok (.getfield 256, 3) := dgX9_takesPart_3.2.2.2.2.2.2.1
theorem dX9_takesPart_103 : decode cX9_takesPart 103 = .ok (.iconst 1, 1) := dgX9_takesPart_3.2.2.2.2.2.2.2.1
theorem dX9_takesPart_104 : decode cX9_takesPart 104 = .ok (.iadd, 1) := dgX9_takesPart_3.2.2.2.2.2.2.2.2.1
theorem dX9_takesPart_105 : decode cX9_takesPart 105 = .ok (.putfield 256, 3) := dgX9_takesPart_3.2.2.2.2.2.2.2.2.2.1
theorem dX9_takesPart_108 : decode cX9_takesPart 108 = .ok (.aload_n 0, 1) := dgX9_takesPart_3.2.2.2.2.2.2.2.2.2.2.1
theorem dX9_takesPart_109 : decode cX9_takesPart 109 = .ok (.bipush 6, 2) := dgX9_takesPart_3.2.2.2.2.2.2.2.2.2.2.2.1
theorem dX9_takesPart_111 : decode cX9_takesPart 111 = .ok (.invokevirtual 259, 3) := dgX9_takesPart_3.2.2.2.2.2.2.2.2.2.2.2.2.1
theorem dX9_takesPart_114 : decode cX9_takesPart 114 = .ok (.aload_n 0, 1) := dgX9_takesPart_3.2.2.2.2.2.2.2.2.2.2.2.2.2.1
theorem dX9_takesPart_115 : decode cX9_takesPart 115 = .ok (.invokevirtual 241, 3) := dgX9_takesPart_3.2.2.2.2.2.2.2.2.2.2.2.2.2.2.1
theorem dX9_takesPart_118 : decode cX9_takesPart 118 = .ok (.iconst 1, 1) := dgX9_takesPart_3.2.2.2.2.2.2.2.2.2.2.2.2.2.2.2
theorem dX9_takesPart_119 : decode cX9_takesPart 119 = .ok (.ireturn, 1) := by decide +kernel
abbrev pX9_takesPart : List Nat := [0, 36, 37, 52, 75, 87]
def bX9_takesPart_0 (cal : ab_F) : ab_K := o_aload 0 <| o_getf 8 12 <| o_push (.int 1) <| o_cmp (fun x y => decide (¬ x = y)) 1 <| o_aload 0 <| o_getf 8 10 <| o_aload 0 <| o_getf 8 11 <| o_bin (fun x y => x - y) <| o_push (.int 1) <| o_cmp (fun x y => decide (¬ x = y)) 1 <| o_aload 0 <| o_aload 0 <| o_getf 8 13 <| o_callV cal 193 1 8 <| o_if (fun x => decide (x < 0)) 1 <| o_push (.int 1) <| o_goto 2
def bX9_takesPart_1 (cal : ab_F) : ab_K := o_push (.int 0) <| o_goto 2
def bX9_takesPart_2 (cal : ab_F) : ab_K := o_istore 1 <| o_aload 0 <| o_getf 8 12 <| o_push (.int 2) <| o_cmp (fun x y => decide (x = y)) 3 <| o_iload 1 <| o_if (fun x => decide (¬ x = 0)) 3 <| o_push (.int 0) <| o_ret (some .boolean)
def bX9_takesPart_3 (cal : ab_F) : ab_K := o_aload 0 <| o_getf 8 18 <| o_aload 0 <| o_getf 8 19 <| o_aload 0 <| o_getf 8 12 <| o_push (.int 2) <| o_cmp (fun x y => decide (¬ x = y)) 4 <| o_aload 0 <| o_getf 8 13 <| o_goto 5
def bX9_takesPart_4 (cal : ab_F) : ab_K := o_push (.int 10000) <| o_aload 0 <| o_aload 0 <| o_getf 8 13 <| o_callV cal 193 1 8 <| o_bin (fun x y => x + y) <| o_goto 5
def bX9_takesPart_5 (cal : ab_F) : ab_K := o_iast 0 (fun x => x) <| o_aload 0 <| o_dup <| o_getf 8 19 <| o_push (.int 1) <| o_bin (fun x y => x + y) <| o_putI 8 19 <| o_aload 0 <| o_dup <| o_getf 8 20 <| o_push (.int 1) <| o_bin (fun x y => x + y) <| o_putI 8 20 <| o_aload 0 <| o_push (.int 6) <| o_callV cal 195 1 8 <| o_aload 0 <| o_callV cal 191 0 8 <| o_push (.int 1) <| o_ret (some .boolean)
def bX9_takesPart (cal : ab_F) : List ab_K := [bX9_takesPart_0 cal, bX9_takesPart_1 cal, bX9_takesPart_2 cal, bX9_takesPart_3 cal, bX9_takesPart_4 cal, bX9_takesPart_5 cal]
set_option maxRecDepth 100000 in
theorem sX9_takesPart_0 {G : ab_G} {xs : List Int32} {d : Nat} {cal : ab_F} (hcs : ab_CS G (ab_Z G xs) ab_Mf cal d) : ab_Sd G (ab_Z G xs) (d + 1) (ab_mY mX9_takesPart pX9_takesPart) 0 (bX9_takesPart_0 cal) :=
  sn_aload_n dX9_takesPart_0 rfl <| sn_getf dX9_takesPart_1 rfl hinX9 (by decide) w_1003 <| sn_iconst dX9_takesPart_4 rfl <| sn_cmp_ne (tg := 36) dX9_takesPart_5 rfl rfl <| sn_aload_n dX9_takesPart_8 rfl <| sn_getf dX9_takesPart_9 rfl hinX9 (by decide) w_1001 <| sn_aload_n dX9_takesPart_12 rfl <| sn_getf dX9_takesPart_13 rfl hinX9 (by decide) w_1002 <| sn_isub dX9_takesPart_16 <| sn_iconst dX9_takesPart_17 rfl <| sn_cmp_ne (tg := 36) dX9_takesPart_18 rfl rfl <| sn_aload_n dX9_takesPart_21 rfl <| sn_aload_n dX9_takesPart_22 rfl <| sn_getf dX9_takesPart_23 rfl hinX9 (by decide) w_1004 <| sq_callV mt_193 hcs dX9_takesPart_26 rfl w_1385 w_1387 w_50 w_63 w_1388 hy_193 hm_193 <| sn_if_lt (tg := 36) dX9_takesPart_29 rfl rfl <| sn_iconst dX9_takesPart_32 rfl <| sn_goto (tg := 37) dX9_takesPart_33 rfl rfl
set_option maxRecDepth 100000 in
theorem sX9_takesPart_1 {G : ab_G} {xs : List Int32} {d : Nat} {cal : ab_F} (hcs : ab_CS G (ab_Z G xs) ab_Mf cal d) : ab_Sd G (ab_Z G xs) (d + 1) (ab_mY mX9_takesPart pX9_takesPart) 36 (bX9_takesPart_1 cal) :=
  sn_iconst dX9_takesPart_36 rfl <| sn_next rfl
set_option maxRecDepth 100000 in
theorem sX9_takesPart_2 {G : ab_G} {xs : List Int32} {d : Nat} {cal : ab_F} (hcs : ab_CS G (ab_Z G xs) ab_Mf cal d) : ab_Sd G (ab_Z G xs) (d + 1) (ab_mY mX9_takesPart pX9_takesPart) 37 (bX9_takesPart_2 cal) :=
  sn_istore_n dX9_takesPart_37 rfl (by decide) <| sn_aload_n dX9_takesPart_38 rfl <| sn_getf dX9_takesPart_39 rfl hinX9 (by decide) w_1003 <| sn_iconst dX9_takesPart_42 rfl <| sn_cmp_eq (tg := 52) dX9_takesPart_43 rfl rfl <| sn_iload_n dX9_takesPart_46 rfl <| sn_if_ne (tg := 52) dX9_takesPart_47 rfl rfl <| sn_iconst dX9_takesPart_50 rfl <| sn_ret dX9_takesPart_51 ab_ri_bool
set_option maxRecDepth 100000 in
theorem sX9_takesPart_3 {G : ab_G} {xs : List Int32} {d : Nat} {cal : ab_F} (hcs : ab_CS G (ab_Z G xs) ab_Mf cal d) : ab_Sd G (ab_Z G xs) (d + 1) (ab_mY mX9_takesPart pX9_takesPart) 52 (bX9_takesPart_3 cal) :=
  sn_aload_n dX9_takesPart_52 rfl <| sn_getf dX9_takesPart_53 rfl hinX9 (by decide) w_1009 <| sn_aload_n dX9_takesPart_56 rfl <| sn_getf dX9_takesPart_57 rfl hinX9 (by decide) w_1010 <| sn_aload_n dX9_takesPart_60 rfl <| sn_getf dX9_takesPart_61 rfl hinX9 (by decide) w_1003 <| sn_iconst dX9_takesPart_64 rfl <| sn_cmp_ne (tg := 75) dX9_takesPart_65 rfl rfl <| sn_aload_n dX9_takesPart_68 rfl <| sn_getf dX9_takesPart_69 rfl hinX9 (by decide) w_1004 <| sn_goto (tg := 87) dX9_takesPart_72 rfl rfl
set_option maxRecDepth 100000 in
theorem sX9_takesPart_4 {G : ab_G} {xs : List Int32} {d : Nat} {cal : ab_F} (hcs : ab_CS G (ab_Z G xs) ab_Mf cal d) : ab_Sd G (ab_Z G xs) (d + 1) (ab_mY mX9_takesPart pX9_takesPart) 75 (bX9_takesPart_4 cal) :=
  sn_sipush dX9_takesPart_75 rfl <| sn_aload_n dX9_takesPart_78 rfl <| sn_aload_n dX9_takesPart_79 rfl <| sn_getf dX9_takesPart_80 rfl hinX9 (by decide) w_1004 <| sq_callV mt_193 hcs dX9_takesPart_83 rfl w_1385 w_1387 w_50 w_63 w_1388 hy_193 hm_193 <| sn_iadd dX9_takesPart_86 <| sn_next rfl
set_option maxRecDepth 100000 in
theorem sX9_takesPart_5 {G : ab_G} {xs : List Int32} {d : Nat} {cal : ab_F} (hcs : ab_CS G (ab_Z G xs) ab_Mf cal d) : ab_Sd G (ab_Z G xs) (d + 1) (ab_mY mX9_takesPart pX9_takesPart) 87 (bX9_takesPart_5 cal) :=
  sn_iast dX9_takesPart_87 rfl rfl <| sn_aload_n dX9_takesPart_88 rfl <| sn_dup dX9_takesPart_89 <| sn_getf dX9_takesPart_90 rfl hinX9 (by decide) w_1010 <| sn_iconst dX9_takesPart_93 rfl <| sn_iadd dX9_takesPart_94 <| sn_putI tyX9 tyX9_ok nmX9 dX9_takesPart_95 rfl hinX9 (by decide) w_1010 (Or.inl rfl) (tyX9_ok 19 (by decide)) <| sn_aload_n dX9_takesPart_98 rfl <| sn_dup dX9_takesPart_99 <| sn_getf dX9_takesPart_100 rfl hinX9 (by decide) w_1011 <| sn_iconst dX9_takesPart_103 rfl <| sn_iadd dX9_takesPart_104 <| sn_putI tyX9 tyX9_ok nmX9 dX9_takesPart_105 rfl hinX9 (by decide) w_1011 (Or.inl rfl) (tyX9_ok 20 (by decide)) <| sn_aload_n dX9_takesPart_108 rfl <| sn_bipush dX9_takesPart_109 rfl <| sq_callV mt_195 hcs dX9_takesPart_111 rfl w_1389 w_1391 w_51 w_63 w_1392 hy_195 hm_195 <| sn_aload_n dX9_takesPart_114 rfl <| sq_callV mt_191 hcs dX9_takesPart_115 rfl w_1361 w_1363 w_44 w_63 w_1364 hy_191 hm_191 <| sn_iconst dX9_takesPart_118 rfl <| sn_ret dX9_takesPart_119 ab_ri_bool
theorem sX9_takesPart {G : ab_G} {xs : List Int32} {d : Nat} {cal : ab_F} (hcs : ab_CS G (ab_Z G xs) ab_Mf cal d) : ab_BS G (ab_Z G xs) (d + 1) (ab_mY mX9_takesPart pX9_takesPart) pX9_takesPart (bX9_takesPart cal) := ⟨sX9_takesPart_0 hcs, sX9_takesPart_1 hcs, sX9_takesPart_2 hcs, sX9_takesPart_3 hcs, sX9_takesPart_4 hcs, sX9_takesPart_5 hcs, trivial⟩
theorem dgX9_takesE_0 : decode cX9_takesE 0 = .ok (.iconst 0, 1) ∧ decode cX9_takesE 1 = .ok (.istore_n 1, 1) ∧ decode cX9_takesE 2 = .ok (.iconst 0, 1) ∧ decode cX9_takesE 3 = .ok (.istore_n 2, 1) ∧ decode cX9_takesE 4 = .ok (.iconst 1, 1) ∧ decode cX9_takesE 5 = .ok (.istore_n 3, 1) ∧ decode cX9_takesE 6 = .ok (.aload_n 0, 1) ∧ decode cX9_takesE 7 = .ok (.iconst 0, 1) ∧ decode cX9_takesE 8 = .ok (.putfield 250, 3) ∧ decode cX9_takesE 11 = .ok (.aload_n 0, 1) ∧ decode cX9_takesE 12 = .ok (.iconst 0, 1) ∧ decode cX9_takesE 13 = .ok (.putfield 256, 3) ∧ decode cX9_takesE 16 = .ok (.aload_n 0, 1) ∧ decode cX9_takesE 17 = .ok (.iconst 0, 1) ∧ decode cX9_takesE 18 = .ok (.putfield 244, 3) ∧ decode cX9_takesE 21 = .ok (.aload_n 0, 1) := by decide +kernel
theorem dX9_takesE_0 : decode cX9_takesE 0 = .ok (.iconst 0, 1) := dgX9_takesE_0.1
theorem dX9_takesE_1 : decode cX9_takesE 1 = .ok (.istore_n 1, 1) := dgX9_takesE_0.2.1
theorem dX9_takesE_2 : decode cX9_takesE 2 = .ok (.iconst 0, 1) := dgX9_takesE_0.2.2.1
theorem dX9_takesE_3 : decode cX9_takesE 3 = .ok (.istore_n 2, 1) := dgX9_takesE_0.2.2.2.1
theorem dX9_takesE_4 : decode cX9_takesE 4 = .ok (.iconst 1, 1) := dgX9_takesE_0.2.2.2.2.1
theorem dX9_takesE_5 : decode cX9_takesE 5 = .ok (.istore_n 3, 1) := dgX9_takesE_0.2.2.2.2.2.1
theorem dX9_takesE_6 : decode cX9_takesE 6 = .ok (.aload_n 0, 1) := dgX9_takesE_0.2.2.2.2.2.2.1
theorem dX9_takesE_7 : decode cX9_takesE 7 = .ok (.iconst 0, 1) := dgX9_takesE_0.2.2.2.2.2.2.2.1
theorem dX9_takesE_8 : decode cX9_takesE 8 = .ok (.putfield 250, 3) := dgX9_takesE_0.2.2.2.2.2.2.2.2.1
theorem dX9_takesE_11 : decode cX9_takesE 11 = .ok (.aload_n 0, 1) := dgX9_takesE_0.2.2.2.2.2.2.2.2.2.1
theorem dX9_takesE_12 : decode cX9_takesE 12 = .ok (.iconst 0, 1) := dgX9_takesE_0.2.2.2.2.2.2.2.2.2.2.1
theorem dX9_takesE_13 : decode cX9_takesE 13 = .ok (.putfield 256, 3) := dgX9_takesE_0.2.2.2.2.2.2.2.2.2.2.2.1
theorem dX9_takesE_16 : decode cX9_takesE 16 = .ok (.aload_n 0, 1) := dgX9_takesE_0.2.2.2.2.2.2.2.2.2.2.2.2.1
theorem dX9_takesE_17 : decode cX9_takesE 17 = .ok (.iconst 0, 1) := dgX9_takesE_0.2.2.2.2.2.2.2.2.2.2.2.2.2.1
theorem dX9_takesE_18 : decode cX9_takesE 18 = .ok (.putfield 244, 3) := dgX9_takesE_0.2.2.2.2.2.2.2.2.2.2.2.2.2.2.1
theorem dX9_takesE_21 : decode cX9_takesE 21 = .ok (.aload_n 0, 1) := dgX9_takesE_0.2.2.2.2.2.2.2.2.2.2.2.2.2.2.2
theorem dgX9_takesE_1 : decode cX9_takesE 22 = .ok (.getfield 48, 3) ∧ decode cX9_takesE 25 = .ok (.iconst 0, 1) ∧ decode cX9_takesE 26 = .ok (.iconst 0, 1) ∧ decode cX9_takesE 27 = .ok (.bastore, 1) ∧ decode cX9_takesE 28 = .ok (.iload_n 3, 1) ∧ decode cX9_takesE 29 = .ok (.ifCond .ne 10, 3) ∧ decode cX9_takesE 32 = .ok (.aload_n 0, 1) ∧ decode cX9_takesE 33 = .ok (.getfield 226, 3) ∧ decode cX9_takesE 36 = .ok (.ifCond .eq 309, 3) ∧ decode cX9_takesE 39 = .ok (.iload_n 3, 1) ∧ decode cX9_takesE 40 = .ok (.ifCond .eq 140, 3) ∧ decode cX9_takesE 43 = .ok (.aload_n 0, 1) ∧ decode cX9_takesE 44 = .ok (.getfield 226, 3) ∧ decode cX9_takesE 47 = .ok (.iconst 3, 1) ∧ decode cX9_takesE 48 = .ok (.if_icmp .ne 49, 3) ∧ decode cX9_takesE 51 = .ok (.aload_n 0, 1) := by decide +kernel
theorem dX9_takesE_22 : decode cX9_takesE 22 = .ok (.getfield 48, 3) := dgX9_takesE_1.1
theorem dX9_takesE_25 : decode cX9_takesE 25 = .ok (.iconst 0, 1) := dgX9_takesE_1.2.1
theorem dX9_takesE_26 : decode cX9_takesE 26 = .ok (.iconst 0, 1) := dgX9_takesE_1.2.2.1
theorem dX9_takesE_27 : decode cX9_takesE 27 = .ok (.bastore, 1) := dgX9_takesE_1.2.2.2.1
theorem dX9_takesE_28 : decode cX9_takesE 28 = .ok (.iload_n 3, 1) := dgX9_takesE_1.2.2.2.2.1
theorem dX9_takesE_29 : decode cX9_takesE 29 = .ok (.ifCond .ne 10, 3) := dgX9_takesE_1.2.2.2.2.2.1
theorem dX9_takesE_32 : decode cX9_takesE 32 = .ok (.aload_n 0, 1) := dgX9_takesE_1.2.2.2.2.2.2.1
theorem dX9_takesE_33 : decode cX9_takesE 33 = .ok (.getfield 226, 3) := dgX9_takesE_1.2.2.2.2.2.2.2.1
theorem dX9_takesE_36 : decode cX9_takesE 36 = .ok (.ifCond .eq 309, 3) := dgX9_takesE_1.2.2.2.2.2.2.2.2.1
theorem dX9_takesE_39 : decode cX9_takesE 39 = .ok (.iload_n 3, 1) := dgX9_takesE_1.2.2.2.2.2.2.2.2.2.1
theorem dX9_takesE_40 : decode cX9_takesE 40 = .ok (.ifCond .eq 140, 3) := dgX9_takesE_1.2.2.2.2.2.2.2.2.2.2.1
theorem dX9_takesE_43 : decode cX9_takesE 43 = .ok (.aload_n 0, 1) := dgX9_takesE_1.2.2.2.2.2.2.2.2.2.2.2.1
theorem dX9_takesE_44 : decode cX9_takesE 44 = .ok (.getfield 226, 3) := dgX9_takesE_1.2.2.2.2.2.2.2.2.2.2.2.2.1
theorem dX9_takesE_47 : decode cX9_takesE 47 = .ok (.iconst 3, 1) := dgX9_takesE_1.2.2.2.2.2.2.2.2.2.2.2.2.2.1
theorem dX9_takesE_48 : decode cX9_takesE 48 = .ok (.if_icmp .ne 49, 3) := dgX9_takesE_1.2.2.2.2.2.2.2.2.2.2.2.2.2.2.1
theorem dX9_takesE_51 : decode cX9_takesE 51 = .ok (.aload_n 0, 1) := dgX9_takesE_1.2.2.2.2.2.2.2.2.2.2.2.2.2.2.2
theorem dgX9_takesE_2 : decode cX9_takesE 52 = .ok (.getfield 232, 3) ∧ decode cX9_takesE 55 = .ok (.bipush 33, 2) ∧ decode cX9_takesE 57 = .ok (.if_icmp .ne 40, 3) ∧ decode cX9_takesE 60 = .ok (.iload_n 2, 1) ∧ decode cX9_takesE 61 = .ok (.bipush 8, 2) ∧ decode cX9_takesE 63 = .ok (.if_icmp .ge 34, 3) ∧ decode cX9_takesE 66 = .ok (.aload_n 0, 1) ∧ decode cX9_takesE 67 = .ok (.getfield 45, 3) ∧ decode cX9_takesE 70 = .ok (.aload_n 0, 1) ∧ decode cX9_takesE 71 = .ok (.getfield 244, 3) ∧ decode cX9_takesE 74 = .ok (.bipush (-10), 2) ∧ decode cX9_takesE 76 = .ok (.iastore, 1) ∧ decode cX9_takesE 77 = .ok (.aload_n 0, 1) ∧ decode cX9_takesE 78 = .ok (.dup, 1) ∧ decode cX9_takesE 79 = .ok (.getfield 244, 3) ∧ decode cX9_takesE 82 = .ok (.iconst 1, 1) := by decide +kernel
theorem dX9_takesE_52 : decode cX9_takesE 52 = .ok (.getfield 232, 3) := dgX9_takesE_2.1
theorem dX9_takesE_55 : decode cX9_takesE 55 = .ok (.bipush 33, 2) := dgX9_takesE_2.2.1
theorem dX9_takesE_57 : decode cX9_takesE 57 = .ok (.if_icmp .ne 40, 3) := dgX9_takesE_2.2.2.1
theorem dX9_takesE_60 : decode cX9_takesE 60 = .ok (.iload_n 2, 1) := dgX9_takesE_2.2.2.2.1
theorem dX9_takesE_61 : decode cX9_takesE 61 = .ok (.bipush 8, 2) := dgX9_takesE_2.2.2.2.2.1
theorem dX9_takesE_63 : decode cX9_takesE 63 = .ok (.if_icmp .ge 34, 3) := dgX9_takesE_2.2.2.2.2.2.1
theorem dX9_takesE_66 : decode cX9_takesE 66 = .ok (.aload_n 0, 1) := dgX9_takesE_2.2.2.2.2.2.2.1
theorem dX9_takesE_67 : decode cX9_takesE 67 = .ok (.getfield 45, 3) := dgX9_takesE_2.2.2.2.2.2.2.2.1
theorem dX9_takesE_70 : decode cX9_takesE 70 = .ok (.aload_n 0, 1) := dgX9_takesE_2.2.2.2.2.2.2.2.2.1
theorem dX9_takesE_71 : decode cX9_takesE 71 = .ok (.getfield 244, 3) := dgX9_takesE_2.2.2.2.2.2.2.2.2.2.1
theorem dX9_takesE_74 : decode cX9_takesE 74 = .ok (.bipush (-10), 2) := dgX9_takesE_2.2.2.2.2.2.2.2.2.2.2.1
theorem dX9_takesE_76 : decode cX9_takesE 76 = .ok (.iastore, 1) := dgX9_takesE_2.2.2.2.2.2.2.2.2.2.2.2.1
theorem dX9_takesE_77 : decode cX9_takesE 77 = .ok (.aload_n 0, 1) := dgX9_takesE_2.2.2.2.2.2.2.2.2.2.2.2.2.1
theorem dX9_takesE_78 : decode cX9_takesE 78 = .ok (.dup, 1) := dgX9_takesE_2.2.2.2.2.2.2.2.2.2.2.2.2.2.1
theorem dX9_takesE_79 : decode cX9_takesE 79 = .ok (.getfield 244, 3) := dgX9_takesE_2.2.2.2.2.2.2.2.2.2.2.2.2.2.2.1
theorem dX9_takesE_82 : decode cX9_takesE 82 = .ok (.iconst 1, 1) := dgX9_takesE_2.2.2.2.2.2.2.2.2.2.2.2.2.2.2.2
theorem dgX9_takesE_3 : decode cX9_takesE 83 = .ok (.iadd, 1) ∧ decode cX9_takesE 84 = .ok (.putfield 244, 3) ∧ decode cX9_takesE 87 = .ok (.iinc 2 1, 3) ∧ decode cX9_takesE 90 = .ok (.aload_n 0, 1) ∧ decode cX9_takesE 91 = .ok (.invokevirtual 241, 3) ∧ decode cX9_takesE 94 = .ok (.goto 78, 3) ∧ decode cX9_takesE 97 = .ok (.aload_n 0, 1) ∧ decode cX9_takesE 98 = .ok (.getfield 226, 3) ∧ decode cX9_takesE 101 = .ok (.iconst 3, 1) ∧ decode cX9_takesE 102 = .ok (.if_icmp .ne 56, 3) ∧ decode cX9_takesE 105 = .ok (.aload_n 0, 1) ∧ decode cX9_takesE 106 = .ok (.getfield 232, 3) ∧ decode cX9_takesE 109 = .ok (.bipush 40, 2) ∧ decode cX9_takesE 111 = .ok (.if_icmp .ne 47, 3) ∧ decode cX9_takesE 114 = .ok (.iload_n 1, 1) ∧ decode cX9_takesE 115 = .ok (.bipush 8, 2) := by decide +kernel
theorem dX9_takesE_83 : decode cX9_takesE 83 = .ok (.iadd, 1) := dgX9_takesE_3.1
theorem dX9_takesE_84 : decode cX9_takesE 84 = .ok (.putfield 244, 3) := dgX9_takesE_3.2.1
theorem dX9_takesE_87 : decode cX9_takesE 87 = .ok (.iinc 2 1, 3) := dgX9_takesE_3.2.2.1
theorem dX9_takesE_90 : decode cX9_takesE 90 = .ok (.aload_n 0, 1) := dgX9_takesE_3.2.2.2.1
theorem dX9_takesE_91 : decode cX9_takesE 91 = .ok (.invokevirtual 241, 3) := dgX9_takesE_3.2.2.2.2.1
theorem dX9_takesE_94 : decode cX9_takesE 94 = .ok (.goto 78, 3) := dgX9_takesE_3.2.2.2.2.2.1
theorem dX9_takesE_97 : decode cX9_takesE 97 = .ok (.aload_n 0, 1) := dgX9_takesE_3.2.2.2.2.2.2.1
theorem dX9_takesE_98 : decode cX9_takesE 98 = .ok (.getfield 226, 3) := dgX9_takesE_3.2.2.2.2.2.2.2.1
theorem dX9_takesE_101 : decode cX9_takesE 101 = .ok (.iconst 3, 1) := dgX9_takesE_3.2.2.2.2.2.2.2.2.1
theorem dX9_takesE_102 : decode cX9_takesE 102 = .ok (.if_icmp .ne 56, 3) := dgX9_takesE_3.2.2.2.2.2.2.2.2.2.1
theorem dX9_takesE_105 : decode cX9_takesE 105 = .ok (.aload_n 0, 1) := dgX9_takesE_3.2.2.2.2.2.2.2.2.2.2.1
theorem dX9_takesE_106 : decode cX9_takesE 106 = .ok (.getfield 232, 3) := dgX9_takesE_3.2.2.2.2.2.2.2.2.2.2.2.1
theorem dX9_takesE_109 : decode cX9_takesE 109 = .ok (.bipush 40, 2) := dgX9_takesE_3.2.2.2.2.2.2.2.2.2.2.2.2.1
theorem dX9_takesE_111 : decode cX9_takesE 111 = .ok (.if_icmp .ne 47, 3) := dgX9_takesE_3.2.2.2.2.2.2.2.2.2.2.2.2.2.1
theorem dX9_takesE_114 : decode cX9_takesE 114 = .ok (.iload_n 1, 1) := dgX9_takesE_3.2.2.2.2.2.2.2.2.2.2.2.2.2.2.1
theorem dX9_takesE_115 : decode cX9_takesE 115 = .ok (.bipush 8, 2) := dgX9_takesE_3.2.2.2.2.2.2.2.2.2.2.2.2.2.2.2
theorem dgX9_takesE_4 : decode cX9_takesE 117 = .ok (.if_icmp .ge 41, 3) ∧ decode cX9_takesE 120 = .ok (.aload_n 0, 1) ∧ decode cX9_takesE 121 = .ok (.getfield 45, 3) ∧ decode cX9_takesE 124 = .ok (.aload_n 0, 1) ∧ decode cX9_takesE 125 = .ok (.getfield 244, 3) ∧ decode cX9_takesE 128 = .ok (.bipush (-11), 2) ∧ decode cX9_takesE 130 = .ok (.iastore, 1) ∧ decode cX9_takesE 131 = .ok (.aload_n 0, 1) ∧ decode cX9_takesE 132 = .ok (.dup, 1) ∧ decode cX9_takesE 133 = .ok (.getfield 244, 3) ∧ decode cX9_takesE 136 = .ok (.iconst 1, 1) ∧ decode cX9_takesE 137 = .ok (.iadd, 1) ∧ decode cX9_takesE 138 = .ok (.putfield 244, 3) ∧ decode cX9_takesE 141 = .ok (.iinc 1 1, 3) ∧ decode cX9_takesE 144 = .ok (.aload_n 0, 1) ∧ decode cX9_takesE 145 = .ok (.getfield 48, 3) := by decide +kernel
theorem dX9_takesE_117 : decode cX9_takesE 117 = .ok (.if_icmp .ge 41, 3) := dgX9_takesE_4.1
theorem dX9_takesE_120 : decode cX9_takesE 120 = .ok (.aload_n 0, 1) := dgX9_takesE_4.2.1
theorem dX9_takesE_121 : decode cX9_takesE 121 = .ok (.getfield 45, 3) := dgX9_takesE_4.2.2.1
theorem dX9_takesE_124 : decode cX9_takesE 124 = .ok (.aload_n 0, 1) := dgX9_takesE_4.2.2.2.1
theorem dX9_takesE_125 : decode cX9_takesE 125 = .ok (.getfield 244, 3) := dgX9_takesE_4.2.2.2.2.1
theorem dX9_takesE_128 : decode cX9_takesE 128 = .ok (.bipush (-11), 2) := dgX9_takesE_4.2.2.2.2.2.1
theorem dX9_takesE_130 : decode cX9_takesE 130 = .ok (.iastore, 1) := dgX9_takesE_4.2.2.2.2.2.2.1
theorem dX9_takesE_131 : decode cX9_takesE 131 = .ok (.aload_n 0, 1) := dgX9_takesE_4.2.2.2.2.2.2.2.1
theorem dX9_takesE_132 : decode cX9_takesE 132 = .ok (.dup, 1) := dgX9_takesE_4.2.2.2.2.2.2.2.2.1
theorem dX9_takesE_133 : decode cX9_takesE 133 = .ok (.getfield 244, 3) := dgX9_takesE_4.2.2.2.2.2.2.2.2.2.1
theorem dX9_takesE_136 : decode cX9_takesE 136 = .ok (.iconst 1, 1) := dgX9_takesE_4.2.2.2.2.2.2.2.2.2.2.1
theorem dX9_takesE_137 : decode cX9_takesE 137 = .ok (.iadd, 1) := dgX9_takesE_4.2.2.2.2.2.2.2.2.2.2.2.1
theorem dX9_takesE_138 : decode cX9_takesE 138 = .ok (.putfield 244, 3) := dgX9_takesE_4.2.2.2.2.2.2.2.2.2.2.2.2.1
theorem dX9_takesE_141 : decode cX9_takesE 141 = .ok (.iinc 1 1, 3) := dgX9_takesE_4.2.2.2.2.2.2.2.2.2.2.2.2.2.1
theorem dX9_takesE_144 : decode cX9_takesE 144 = .ok (.aload_n 0, 1) := dgX9_takesE_4.2.2.2.2.2.2.2.2.2.2.2.2.2.2.1
theorem dX9_takesE_145 : decode cX9_takesE 145 = .ok (.getfield 48, 3) := dgX9_takesE_4.2.2.2.2.2.2.2.2.2.2.2.2.2.2.2
theorem dgX9_takesE_5 : decode cX9_takesE 148 = .ok (.iload_n 1, 1) ∧ decode cX9_takesE 149 = .ok (.iconst 0, 1) ∧ decode cX9_takesE 150 = .ok (.bastore, 1) ∧ decode cX9_takesE 151 = .ok (.aload_n 0, 1) ∧ decode cX9_takesE 152 = .ok (.invokevirtual 241, 3) ∧ decode cX9_takesE 155 = .ok (.goto 17, 3) ∧ decode cX9_takesE 158 = .ok (.aload_n 0, 1) ∧ decode cX9_takesE 159 = .ok (.invokevirtual 262, 3) ∧ decode cX9_takesE 162 = .ok (.ifCond .eq 8, 3) ∧ decode cX9_takesE 165 = .ok (.iconst 0, 1) ∧ decode cX9_takesE 166 = .ok (.istore_n 3, 1) ∧ decode cX9_takesE 167 = .ok (.goto 5, 3) ∧ decode cX9_takesE 170 = .ok (.iconst 0, 1) ∧ decode cX9_takesE 171 = .ok (.ireturn, 1) ∧ decode cX9_takesE 172 = .ok (.aload_n 0, 1) ∧ decode cX9_takesE 173 = .ok (.invokevirtual 265, 3) := by decide +kernel
theorem dX9_takesE_148 : decode cX9_takesE 148 = .ok (.iload_n 1, 1) := dgX9_takesE_5.1
theorem dX9_takesE_149 : decode cX9_takesE 149 = .ok (.iconst 0, 1) := dgX9_takesE_5.2.1
theorem dX9_takesE_150 : decode cX9_takesE 150 = .ok (.bastore, 1) := dgX9_takesE_5.2.2.1
theorem dX9_takesE_151 : decode cX9_takesE 151 = .ok (.aload_n 0, 1) := dgX9_takesE_5.2.2.2.1
theorem dX9_takesE_152 : decode cX9_takesE 152 = .ok (.invokevirtual 241, 3) := dgX9_takesE_5.2.2.2.2.1
theorem dX9_takesE_155 : decode cX9_takesE 155 = .ok (.goto 17, 3) := dgX9_takesE_5.2.2.2.2.2.1
theorem dX9_takesE_158 : decode cX9_takesE 158 = .ok (.aload_n 0, 1) := dgX9_takesE_5.2.2.2.2.2.2.1
theorem dX9_takesE_159 : decode cX9_takesE 159 = .ok (.invokevirtual 262, 3) := dgX9_takesE_5.2.2.2.2.2.2.2.1
theorem dX9_takesE_162 : decode cX9_takesE 162 = .ok (.ifCond .eq 8, 3) := dgX9_takesE_5.2.2.2.2.2.2.2.2.1
theorem dX9_takesE_165 : decode cX9_takesE 165 = .ok (.iconst 0, 1) := dgX9_takesE_5.2.2.2.2.2.2.2.2.2.1
theorem dX9_takesE_166 : decode cX9_takesE 166 = .ok (.istore_n 3, 1) := dgX9_takesE_5.2.2.2.2.2.2.2.2.2.2.1
theorem dX9_takesE_167 : decode cX9_takesE 167 = .ok (.goto 5, 3) := dgX9_takesE_5.2.2.2.2.2.2.2.2.2.2.2.1
theorem dX9_takesE_170 : decode cX9_takesE 170 = .ok (.iconst 0, 1) := dgX9_takesE_5.2.2.2.2.2.2.2.2.2.2.2.2.1
theorem dX9_takesE_171 : decode cX9_takesE 171 = .ok (.ireturn, 1) := dgX9_takesE_5.2.2.2.2.2.2.2.2.2.2.2.2.2.1
theorem dX9_takesE_172 : decode cX9_takesE 172 = .ok (.aload_n 0, 1) := dgX9_takesE_5.2.2.2.2.2.2.2.2.2.2.2.2.2.2.1
theorem dX9_takesE_173 : decode cX9_takesE 173 = .ok (.invokevirtual 265, 3) := dgX9_takesE_5.2.2.2.2.2.2.2.2.2.2.2.2.2.2.2
theorem dgX9_takesE_6 : decode cX9_takesE 176 = .ok (.istore_n 2, 1) ∧ decode cX9_takesE 177 = .ok (.goto (-149), 3) ∧ decode cX9_takesE 180 = .ok (.aload_n 0, 1) ∧ decode cX9_takesE 181 = .ok (.getfield 226, 3) ∧ decode cX9_takesE 184 = .ok (.iconst 3, 1) ∧ decode cX9_takesE 185 = .ok (.if_icmp .ne 52, 3) ∧ decode cX9_takesE 188 = .ok (.aload_n 0, 1) ∧ decode cX9_takesE 189 = .ok (.getfield 232, 3) ∧ decode cX9_takesE 192 = .ok (.bipush 41, 2) ∧ decode cX9_takesE 194 = .ok (.if_icmp .ne 43, 3) ∧ decode cX9_takesE 197 = .ok (.iload_n 1, 1) ∧ decode cX9_takesE 198 = .ok (.ifCond .le 39, 3) ∧ decode cX9_takesE 201 = .ok (.aload_n 0, 1) ∧ decode cX9_takesE 202 = .ok (.iconst 0, 1) ∧ decode cX9_takesE 203 = .ok (.invokevirtual 259, 3) ∧ decode cX9_takesE 206 = .ok (.aload_n 0, 1) := by decide +kernel
theorem dX9_takesE_176 : decode cX9_takesE 176 = .ok (.istore_n 2, 1) := dgX9_takesE_6.1
theorem dX9_takesE_177 : decode cX9_takesE 177 = .ok (.goto (-149), 3) := dgX9_takesE_6.2.1
theorem dX9_takesE_180 : decode cX9_takesE 180 = .ok (.aload_n 0, 1) := dgX9_takesE_6.2.2.1
theorem dX9_takesE_181 : decode cX9_takesE 181 = .ok (.getfield 226, 3) := dgX9_takesE_6.2.2.2.1
theorem dX9_takesE_184 : decode cX9_takesE 184 = .ok (.iconst 3, 1) := dgX9_takesE_6.2.2.2.2.1
theorem dX9_takesE_185 : decode cX9_takesE 185 = .ok (.if_icmp .ne 52, 3) := dgX9_takesE_6.2.2.2.2.2.1
theorem dX9_takesE_188 : decode cX9_takesE 188 = .ok (.aload_n 0, 1) := dgX9_takesE_6.2.2.2.2.2.2.1
theorem dX9_takesE_189 : decode cX9_takesE 189 = .ok (.getfield 232, 3) := dgX9_takesE_6.2.2.2.2.2.2.2.1
theorem dX9_takesE_192 : decode cX9_takesE 192 = .ok (.bipush 41, 2) := dgX9_takesE_6.2.2.2.2.2.2.2.2.1
theorem dX9_takesE_194 : decode cX9_takesE 194 = .ok (.if_icmp .ne 43, 3) := dgX9_takesE_6.2.2.2.2.2.2.2.2.2.1
theorem dX9_takesE_197 : decode cX9_takesE 197 = .ok (.iload_n 1, 1) := dgX9_takesE_6.2.2.2.2.2.2.2.2.2.2.1
theorem dX9_takesE_198 : decode cX9_takesE 198 = .ok (.ifCond .le 39, 3) := dgX9_takesE_6.2.2.2.2.2.2.2.2.2.2.2.1
theorem dX9_takesE_201 : decode cX9_takesE 201 = .ok (.aload_n 0, 1) := dgX9_takesE_6.2.2.2.2.2.2.2.2.2.2.2.2.1
theorem dX9_takesE_202 : decode cX9_takesE 202 = .ok (.iconst 0, 1) := dgX9_takesE_6.2.2.2.2.2.2.2.2.2.2.2.2.2.1
theorem dX9_takesE_203 : decode cX9_takesE 203 = .ok (.invokevirtual 259, 3) := dgX9_takesE_6.2.2.2.2.2.2.2.2.2.2.2.2.2.2.1
theorem dX9_takesE_206 : decode cX9_takesE 206 = .ok (.aload_n 0, 1) := dgX9_takesE_6.2.2.2.2.2.2.2.2.2.2.2.2.2.2.2
theorem dgX9_takesE_7 : decode cX9_takesE 207 = .ok (.dup, 1) ∧ decode cX9_takesE 208 = .ok (.getfield 244, 3) ∧ decode cX9_takesE 211 = .ok (.iconst 1, 1) ∧ decode cX9_takesE 212 = .ok (.isub, 1) ∧ decode cX9_takesE 213 = .ok (.putfield 244, 3) ∧ decode cX9_takesE 216 = .ok (.iinc 1 (-1), 3) ∧ decode cX9_takesE 219 = .ok (.aload_n 0, 1) ∧ decode cX9_takesE 220 = .ok (.bipush 6, 2) ∧ decode cX9_takesE 222 = .ok (.invokevirtual 259, 3) ∧ decode cX9_takesE 225 = .ok (.aload_n 0, 1) ∧ decode cX9_takesE 226 = .ok (.invokevirtual 265, 3) ∧ decode cX9_takesE 229 = .ok (.istore_n 2, 1) ∧ decode cX9_takesE 230 = .ok (.aload_n 0, 1) ∧ decode cX9_takesE 231 = .ok (.invokevirtual 241, 3) ∧ decode cX9_takesE 234 = .ok (.goto (-206), 3) ∧ decode cX9_takesE 237 = .ok (.aload_n 0, 1) := by decide +kernel
theorem dX9_takesE_207 : decode cX9_takesE 207 = .ok (.dup, 1) := dgX9_takesE_7.1
theorem dX9_takesE_208 : decode cX9_takesE 208 = .ok (.getfield 244, 3) := dgX9_takesE_7.2.1
theorem dX9_takesE_211 : decode cX9_takesE 211 = .ok (.iconst 1, 1) := dgX9_takesE_7.2.2.1
theorem dX9_takesE_212 : decode cX9_takesE 212 = .ok (.isub, 1) := dgX9_takesE_7.2.2.2.1
theorem dX9_takesE_213 : decode cX9_takesE 213 = .ok (.putfield 244, 3) := dgX9_takesE_7.2.2.2.2.1
theorem dX9_takesE_216 : decode cX9_takesE 216 = .ok (.iinc 1 (-1), 3) := dgX9_takesE_7.2.2.2.2.2.1
theorem dX9_takesE_219 : decode cX9_takesE 219 = .ok (.aload_n 0, 1) := dgX9_takesE_7.2.2.2.2.2.2.1
theorem dX9_takesE_220 : decode cX9_takesE 220 = .ok (.bipush 6, 2) := dgX9_takesE_7.2.2.2.2.2.2.2.1
theorem dX9_takesE_222 : decode cX9_takesE 222 = .ok (.invokevirtual 259, 3) := dgX9_takesE_7.2.2.2.2.2.2.2.2.1
theorem dX9_takesE_225 : decode cX9_takesE 225 = .ok (.aload_n 0, 1) := dgX9_takesE_7.2.2.2.2.2.2.2.2.2.1
theorem dX9_takesE_226 : decode cX9_takesE 226 = .ok (.invokevirtual 265, 3) := dgX9_takesE_7.2.2.2.2.2.2.2.2.2.2.1
theorem dX9_takesE_229 : decode cX9_takesE 229 = .ok (.istore_n 2, 1) := dgX9_takesE_7.2.2.2.2.2.2.2.2.2.2.2.1
theorem dX9_takesE_230 : decode cX9_takesE 230 = .ok (.aload_n 0, 1) := dgX9_takesE_7.2.2.2.2.2.2.2.2.2.2.2.2.1
theorem dX9_takesE_231 : decode cX9_takesE 231 = .ok (.invokevirtual 241, 3) := dgX9_takesE_7.2.2.2.2.2.2.2.2.2.2.2.2.2.1
theorem dX9_takesE_234 : decode cX9_takesE 234 = .ok (.goto (-206), 3) := dgX9_takesE_7.2.2.2.2.2.2.2.2.2.2.2.2.2.2.1
theorem dX9_takesE_237 : decode cX9_takesE 237 = .ok (.aload_n 0, 1) := dgX9_takesE_7.2.2.2.2.2.2.2.2.2.2.2.2.2.2.2
theorem dgX9_takesE_8 : decode cX9_takesE 238 = .ok (.invokevirtual 268, 3) ∧ decode cX9_takesE 241 = .ok (.istore 4, 2) ∧ decode cX9_takesE 243 = .ok (.iload 4, 2) ∧ decode cX9_takesE 245 = .ok (.ifCond .eq 21, 3) ∧ decode cX9_takesE 248 = .ok (.iload 4, 2) ∧ decode cX9_takesE 250 = .ok (.invokestatic 247, 3) ∧ decode cX9_takesE 253 = .ok (.iconst 3, 1) ∧ decode cX9_takesE 254 = .ok (.if_icmp .ne 14, 3) ∧ decode cX9_takesE 257 = .ok (.aload_n 0, 1) ∧ decode cX9_takesE 258 = .ok (.getfield 48, 3) ∧ decode cX9_takesE 261 = .ok (.iload_n 1, 1) ∧ decode cX9_takesE 262 = .ok (.baload, 1) ∧ decode cX9_takesE 263 = .ok (.ifCond .eq 5, 3) ∧ decode cX9_takesE 266 = .ok (.iconst 0, 1) ∧ decode cX9_takesE 267 = .ok (.ireturn, 1) ∧ decode cX9_takesE 268 = .ok (.aload_n 0, 1) := by decide +kernel
theorem dX9_takesE_238 : decode cX9_takesE 238 = .ok (.invokevirtual 268, 3) := dgX9_takesE_8.1
theorem dX9_takesE_241 : decode cX9_takesE 241 = .ok (.istore 4, 2) := dgX9_takesE_8.2.1
theorem dX9_takesE_243 : decode cX9_takesE 243 = .ok (.iload 4, 2) := dgX9_takesE_8.2.2.1
theorem dX9_takesE_245 : decode cX9_takesE 245 = .ok (.ifCond .eq 21, 3) := dgX9_takesE_8.2.2.2.1
theorem dX9_takesE_248 : decode cX9_takesE 248 = .ok (.iload 4, 2) := dgX9_takesE_8.2.2.2.2.1
theorem dX9_takesE_250 : decode cX9_takesE 250 = .ok (.invokestatic 247, 3) := dgX9_takesE_8.2.2.2.2.2.1
theorem dX9_takesE_253 : decode cX9_takesE 253 = .ok (.iconst 3, 1) := dgX9_takesE_8.2.2.2.2.2.2.1
theorem dX9_takesE_254 : decode cX9_takesE 254 = .ok (.if_icmp .ne 14, 3) := dgX9_takesE_8.2.2.2.2.2.2.2.1
theorem dX9_takesE_257 : decode cX9_takesE 257 = .ok (.aload_n 0, 1) := dgX9_takesE_8.2.2.2.2.2.2.2.2.1
theorem dX9_takesE_258 : decode cX9_takesE 258 = .ok (.getfield 48, 3) := dgX9_takesE_8.2.2.2.2.2.2.2.2.2.1
theorem dX9_takesE_261 : decode cX9_takesE 261 = .ok (.iload_n 1, 1) := dgX9_takesE_8.2.2.2.2.2.2.2.2.2.2.1
theorem dX9_takesE_262 : decode cX9_takesE 262 = .ok (.baload, 1) := dgX9_takesE_8.2.2.2.2.2.2.2.2.2.2.2.1
theorem dX9_takesE_263 : decode cX9_takesE 263 = .ok (.ifCond .eq 5, 3) := dgX9_takesE_8.2.2.2.2.2.2.2.2.2.2.2.2.1
theorem dX9_takesE_266 : decode cX9_takesE 266 = .ok (.iconst 0, 1) := dgX9_takesE_8.2.2.2.2.2.2.2.2.2.2.2.2.2.1
theorem dX9_takesE_267 : decode cX9_takesE 267 = .ok (.ireturn, 1) := dgX9_takesE_8.2.2.2.2.2.2.2.2.2.2.2.2.2.2.1
theorem dX9_takesE_268 : decode cX9_takesE 268 = .ok (.aload_n 0, 1) := dgX9_takesE_8.2.2.2.2.2.2.2.2.2.2.2.2.2.2.2
theorem dgX9_takesE_9 : decode cX9_takesE 269 = .ok (.getfield 48, 3) ∧ decode cX9_takesE 272 = .ok (.iload_n 1, 1) ∧ decode cX9_takesE 273 = .ok (.iload 4, 2) ∧ decode cX9_takesE 275 = .ok (.invokestatic 247, 3) ∧ decode cX9_takesE 278 = .ok (.iconst 3, 1) ∧ decode cX9_takesE 279 = .ok (.if_icmp .eq 21, 3) ∧ decode cX9_takesE 282 = .ok (.iload 4, 2) ∧ decode cX9_takesE 284 = .ok (.invokestatic 247, 3) ∧ decode cX9_takesE 287 = .ok (.iconst 3, 1) ∧ decode cX9_takesE 288 = .ok (.if_icmp .le 16, 3) ∧ decode cX9_takesE 291 = .ok (.aload_n 0, 1) ∧ decode cX9_takesE 292 = .ok (.getfield 48, 3) ∧ decode cX9_takesE 295 = .ok (.iload_n 1, 1) ∧ decode cX9_takesE 296 = .ok (.baload, 1) ∧ decode cX9_takesE 297 = .ok (.ifCond .eq 7, 3) ∧ decode cX9_takesE 300 = .ok (.iconst 1, 1) := by decide +kernel
theorem dX9_takesE_269 : decode cX9_takesE 269 = .ok (.getfield 48, 3) := dgX9_takesE_9.1
theorem dX9_takesE_272 : decode cX9_takesE 272 = .ok (.iload_n 1, 1) := dgX9_takesE_9.2.1
theorem dX9_takesE_273 : decode cX9_takesE 273 = .ok (.iload 4, 2) := dgX9_takesE_9.2.2.1
theorem dX9_takesE_275 : decode cX9_takesE 275 = .ok (.invokestatic 247, 3) := dgX9_takesE_9.2.2.2.1
theorem dX9_takesE_278 : decode cX9_takesE 278 = .ok (.iconst 3, 1) := dgX9_takesE_9.2.2.2.2.1
theorem dX9_takesE_279 : decode cX9_takesE 279 = .ok (.if_icmp .eq 21, 3) := dgX9_takesE_9.2.2.2.2.2.1
theorem dX9_takesE_282 : decode cX9_takesE 282 = .ok (.iload 4, 2) := dgX9_takesE_9.2.2.2.2.2.2.1
theorem dX9_takesE_284 : decode cX9_takesE 284 = .ok (.invokestatic 247, 3) := dgX9_takesE_9.2.2.2.2.2.2.2.1
theorem dX9_takesE_287 : decode cX9_takesE 287 = .ok (.iconst 3, 1) := dgX9_takesE_9.2.2.2.2.2.2.2.2.1
theorem dX9_takesE_288 : decode cX9_takesE 288 = .ok (.if_icmp .le 16, 3) := dgX9_takesE_9.2.2.2.2.2.2.2.2.2.1
theorem dX9_takesE_291 : decode cX9_takesE 291 = .ok (.aload_n 0, 1) := dgX9_takesE_9.2.2.2.2.2.2.2.2.2.2.1
theorem dX9_takesE_292 : decode cX9_takesE 292 = .ok (.getfield 48, 3) := dgX9_takesE_9.2.2.2.2.2.2.2.2.2.2.2.1
theorem dX9_takesE_295 : decode cX9_takesE 295 = .ok (.iload_n 1, 1) := dgX9_takesE_9.2.2.2.2.2.2.2.2.2.2.2.2.1
theorem dX9_takesE_296 : decode cX9_takesE 296 = .ok (.baload, 1) := dgX9_takesE_9.2.2.2.2.2.2.2.2.2.2.2.2.2.1
theorem dX9_takesE_297 : decode cX9_takesE 297 = .ok (.ifCond .eq 7, 3) := dgX9_takesE_9.2.2.2.2.2.2.2.2.2.2.2.2.2.2.1
theorem dX9_takesE_300 : decode cX9_takesE 300 = .ok (.iconst 1, 1) := dgX9_takesE_9.2.2.2.2.2.2.2.2.2.2.2.2.2.2.2
theorem dgX9_takesE_10 : decode cX9_takesE 301 = .ok (.goto 4, 3) ∧ decode cX9_takesE 304 = .ok (.iconst 0, 1) ∧ decode cX9_takesE 305 = .ok (.bastore, 1) ∧ decode cX9_takesE 306 = .ok (.aload_n 0, 1) ∧ decode cX9_takesE 307 = .ok (.iload 4, 2) ∧ decode cX9_takesE 309 = .ok (.invokestatic 247, 3) ∧ decode cX9_takesE 312 = .ok (.invokevirtual 259, 3) ∧ decode cX9_takesE 315 = .ok (.aload_n 0, 1) ∧ decode cX9_takesE 316 = .ok (.getfield 45, 3) ∧ decode cX9_takesE 319 = .ok (.aload_n 0, 1) ∧ decode cX9_takesE 320 = .ok (.getfield 244, 3) ∧ decode cX9_takesE 323 = .ok (.iload 4, 2) ∧ decode cX9_takesE 325 = .ok (.iastore, 1) ∧ decode cX9_takesE 326 = .ok (.aload_n 0, 1) ∧ decode cX9_takesE 327 = .ok (.dup, 1) ∧ decode cX9_takesE 328 = .ok (.getfield 244, 3) := by decide +kernel
theorem dX9_takesE_301 : decode cX9_takesE 301 = .ok (.goto 4, 3) := dgX9_takesE_10.1
theorem dX9_takesE_304 : decode cX9_takesE 304 = .ok (.iconst 0, 1) := dgX9_takesE_10.2.1
theorem dX9_takesE_305 : decode cX9_takesE 305 = .ok (.bastore, 1) := dgX9_takesE_10.2.2.1
theorem dX9_takesE_306 : decode cX9_takesE 306 = .ok (.aload_n 0, 1) := dgX9_takesE_10.2.2.2.1
theorem dX9_takesE_307 : decode cX9_takesE 307 = .ok (.iload 4, 2) := dgX9_takesE_10.2.2.2.2.1
theorem dX9_takesE_309 : decode cX9_takesE 309 = .ok (.invokestatic 247, 3) := dgX9_takesE_10.2.2.2.2.2.1
theorem dX9_takesE_312 : decode cX9_takesE 312 = .ok (.invokevirtual 259, 3) := dgX9_takesE_10.2.2.2.2.2.2.1
theorem dX9_takesE_315 : decode cX9_takesE 315 = .ok (.aload_n 0, 1) := dgX9_takesE_10.2.2.2.2.2.2.2.1
theorem dX9_takesE_316 : decode cX9_takesE 316 = .ok (.getfield 45, 3) := dgX9_takesE_10.2.2.2.2.2.2.2.2.1
theorem dX9_takesE_319 : decode cX9_takesE 319 = .ok (.aload_n 0, 1) := dgX9_takesE_10.2.2.2.2.2.2.2.2.2.1
theorem dX9_takesE_320 : decode cX9_takesE 320 = .ok (.getfield 244, 3) := dgX9_takesE_10.2.2.2.2.2.2.2.2.2.2.1
theorem dX9_takesE_323 : decode cX9_takesE 323 = .ok (.iload 4, 2) := dgX9_takesE_10.2.2.2.2.2.2.2.2.2.2.2.1
theorem dX9_takesE_325 : decode cX9_takesE 325 = .ok (.iastore, 1) := dgX9_takesE_10.2.2.2.2.2.2.2.2.2.2.2.2.1
theorem dX9_takesE_326 : decode cX9_takesE 326 = .ok (.aload_n 0, 1) := dgX9_takesE_10.2.2.2.2.2.2.2.2.2.2.2.2.2.1
theorem dX9_takesE_327 : decode cX9_takesE 327 = .ok (.dup, 1) := dgX9_takesE_10.2.2.2.2.2.2.2.2.2.2.2.2.2.2.1
theorem dX9_takesE_328 : decode cX9_takesE 328 = .ok (.getfield 244, 3) := dgX9_takesE_10.2.2.2.2.2.2.2.2.2.2.2.2.2.2.2
theorem dgX9_takesE_11 : decode cX9_takesE 331 = .ok (.iconst 1, 1) ∧ decode cX9_takesE 332 = .ok (.iadd, 1) ∧ decode cX9_takesE 333 = .ok (.putfield 244, 3) ∧ decode cX9_takesE 336 = .ok (.iconst 1, 1) ∧ decode cX9_takesE 337 = .ok (.istore_n 3, 1) ∧ decode cX9_takesE 338 = .ok (.aload_n 0, 1) ∧ decode cX9_takesE 339 = .ok (.invokevirtual 241, 3) ∧ decode cX9_takesE 342 = .ok (.goto (-314), 3) ∧ decode cX9_takesE 345 = .ok (.aload_n 0, 1) ∧ decode cX9_takesE 346 = .ok (.iconst 0, 1) ∧ decode cX9_takesE 347 = .ok (.invokevirtual 259, 3) ∧ decode cX9_takesE 350 = .ok (.iload_n 1, 1) ∧ decode cX9_takesE 351 = .ok (.ifCond .ne 7, 3) ∧ decode cX9_takesE 354 = .ok (.iconst 1, 1) ∧ decode cX9_takesE 355 = .ok (.goto 4, 3) ∧ decode cX9_takesE 358 = .ok (.iconst 0, 1) := by decide +kernel
theorem dX9_takesE_331 : decode cX9_takesE 331 = .ok (.iconst 1, 1) := dgX9_takesE_11.1
theorem dX9_takesE_332 : decode cX9_takesE 332 = .ok (.iadd, 1) := dgX9_takesE_11.2.1
theorem dX9_takesE_333 : decode cX9_takesE 333 = .ok (.putfield 244, 3) := dgX9_takesE_11.2.2.1
theorem dX9_takesE_336 : decode cX9_takesE 336 = .ok (.iconst 1, 1) := dgX9_takesE_11.2.2.2.1
theorem dX9_takesE_337 : decode cX9_takesE 337 = .ok (.istore_n 3, 1) := dgX9_takesE_11.2.2.2.2.1
theorem dX9_takesE_338 : decode cX9_takesE 338 = .ok (.aload_n 0, 1) := dgX9_takesE_11.2.2.2.2.2.1
theorem dX9_takesE_339 : decode cX9_takesE 339 = .ok (.invokevirtual 241, 3) := dgX9_takesE_11.2.2.2.2.2.2.1
theorem dX9_takesE_342 : decode cX9_takesE 342 = .ok (.goto (-314), 3) := dgX9_takesE_11.2.2.2.2.2.2.2.1
theorem dX9_takesE_345 : decode cX9_takesE 345 = .ok (.aload_n 0, 1) := dgX9_takesE_11.2.2.2.2.2.2.2.2.1
theorem dX9_takesE_346 : decode cX9_takesE 346 = .ok (.iconst 0, 1) := dgX9_takesE_11.2.2.2.2.2.2.2.2.2.1
theorem dX9_takesE_347 : decode cX9_takesE 347 = .ok (.invokevirtual 259, 3) := dgX9_takesE_11.2.2.2.2.2.2.2.2.2.2.1
theorem dX9_takesE_350 : decode cX9_takesE 350 = .ok (.iload_n 1, 1) := dgX9_takesE_11.2.2.2.2.2.2.2.2.2.2.2.1
theorem dX9_takesE_351 : decode cX9_takesE 351 = .ok (.ifCond .ne 7, 3) := dgX9_takesE_11.2.2.2.2.2.2.2.2.2.2.2.2.1
theorem dX9_takesE_354 : decode cX9_takesE 354 = .ok (.iconst 1, 1) := dgX9_takesE_11.2.2.2.2.2.2.2.2.2.2.2.2.2.1
theorem dX9_takesE_355 : decode cX9_takesE 355 = .ok (.goto 4, 3) := dgX9_takesE_11.2.2.2.2.2.2.2.2.2.2.2.2.2.2.1
theorem dX9_takesE_358 : decode cX9_takesE 358 = .ok (.iconst 0, 1) := dgX9_takesE_11.2.2.2.2.2.2.2.2.2.2.2.2.2.2.2
theorem dX9_takesE_359 : decode cX9_takesE 359 = .ok (.ireturn, 1) := by decide +kernel
abbrev pX9_takesE : List Nat := [0, 28, 39, 97, 158, 170, 172, 180, 237, 266, 268, 300, 304, 305, 345, 358, 359]
def bX9_takesE_0 (cal : ab_F) : ab_K := o_push (.int 0) <| o_istore 1 <| o_push (.int 0) <| o_istore 2 <| o_push (.int 1) <| o_istore 3 <| o_aload 0 <| o_push (.int 0) <| o_putI 8 19 <| o_aload 0 <| o_push (.int 0) <| o_putI 8 20 <| o_aload 0 <| o_push (.int 0) <| o_putI 8 22 <| o_aload 0 <| o_getf 8 23 <| o_push (.int 0) <| o_push (.int 0) <| o_iast 2 (vp_nar .boolean) <| o_goto 1
def bX9_takesE_1 (cal : ab_F) : ab_K := o_iload 3 <| o_if (fun x => decide (¬ x = 0)) 2 <| o_aload 0 <| o_getf 8 12 <| o_if (fun x => decide (x = 0)) 14 <| o_goto 2
def bX9_takesE_2 (cal : ab_F) : ab_K := o_iload 3 <| o_if (fun x => decide (x = 0)) 7 <| o_aload 0 <| o_getf 8 12 <| o_push (.int 3) <| o_cmp (fun x y => decide (¬ x = y)) 3 <| o_aload 0 <| o_getf 8 13 <| o_push (.int 33) <| o_cmp (fun x y => decide (¬ x = y)) 3 <| o_iload 2 <| o_push (.int 8) <| o_cmp (fun x y => decide (y ≤ x)) 3 <| o_aload 0 <| o_getf 8 21 <| o_aload 0 <| o_getf 8 22 <| o_push (.int (-10)) <| o_iast 0 (fun x => x) <| o_aload 0 <| o_dup <| o_getf 8 22 <| o_push (.int 1) <| o_bin (fun x y => x + y) <| o_putI 8 22 <| o_iinc 2 1 <| o_aload 0 <| o_callV cal 191 0 8 <| o_goto 6
def bX9_takesE_3 (cal : ab_F) : ab_K := o_aload 0 <| o_getf 8 12 <| o_push (.int 3) <| o_cmp (fun x y => decide (¬ x = y)) 4 <| o_aload 0 <| o_getf 8 13 <| o_push (.int 40) <| o_cmp (fun x y => decide (¬ x = y)) 4 <| o_iload 1 <| o_push (.int 8) <| o_cmp (fun x y => decide (y ≤ x)) 4 <| o_aload 0 <| o_getf 8 21 <| o_aload 0 <| o_getf 8 22 <| o_push (.int (-11)) <| o_iast 0 (fun x => x) <| o_aload 0 <| o_dup <| o_getf 8 22 <| o_push (.int 1) <| o_bin (fun x y => x + y) <| o_putI 8 22 <| o_iinc 1 1 <| o_aload 0 <| o_getf 8 23 <| o_iload 1 <| o_push (.int 0) <| o_iast 2 (vp_nar .boolean) <| o_aload 0 <| o_callV cal 191 0 8 <| o_goto 6
def bX9_takesE_4 (cal : ab_F) : ab_K := o_aload 0 <| o_callV cal 197 0 8 <| o_if (fun x => decide (x = 0)) 5 <| o_push (.int 0) <| o_istore 3 <| o_goto 6
def bX9_takesE_5 (cal : ab_F) : ab_K := o_push (.int 0) <| o_ret (some .boolean)
def bX9_takesE_6 (cal : ab_F) : ab_K := o_aload 0 <| o_callV cal 199 0 8 <| o_istore 2 <| o_goto 1
def bX9_takesE_7 (cal : ab_F) : ab_K := o_aload 0 <| o_getf 8 12 <| o_push (.int 3) <| o_cmp (fun x y => decide (¬ x = y)) 8 <| o_aload 0 <| o_getf 8 13 <| o_push (.int 41) <| o_cmp (fun x y => decide (¬ x = y)) 8 <| o_iload 1 <| o_if (fun x => decide (x ≤ 0)) 8 <| o_aload 0 <| o_push (.int 0) <| o_callV cal 195 1 8 <| o_aload 0 <| o_dup <| o_getf 8 22 <| o_push (.int 1) <| o_bin (fun x y => x - y) <| o_putI 8 22 <| o_iinc 1 (-1) <| o_aload 0 <| o_push (.int 6) <| o_callV cal 195 1 8 <| o_aload 0 <| o_callV cal 199 0 8 <| o_istore 2 <| o_aload 0 <| o_callV cal 191 0 8 <| o_goto 1
def bX9_takesE_8 (cal : ab_F) : ab_K := o_aload 0 <| o_callV cal 196 0 8 <| o_istore 4 <| o_iload 4 <| o_if (fun x => decide (x = 0)) 9 <| o_iload 4 <| o_callS cal 194 1 <| o_push (.int 3) <| o_cmp (fun x y => decide (¬ x = y)) 10 <| o_aload 0 <| o_getf 8 23 <| o_iload 1 <| o_iald 2 <| o_if (fun x => decide (x = 0)) 10 <| o_goto 9
def bX9_takesE_9 (cal : ab_F) : ab_K := o_push (.int 0) <| o_ret (some .boolean)
def bX9_takesE_10 (cal : ab_F) : ab_K := o_aload 0 <| o_getf 8 23 <| o_iload 1 <| o_iload 4 <| o_callS cal 194 1 <| o_push (.int 3) <| o_cmp (fun x y => decide (x = y)) 11 <| o_iload 4 <| o_callS cal 194 1 <| o_push (.int 3) <| o_cmp (fun x y => decide (x ≤ y)) 12 <| o_aload 0 <| o_getf 8 23 <| o_iload 1 <| o_iald 2 <| o_if (fun x => decide (x = 0)) 12 <| o_goto 11
def bX9_takesE_11 (cal : ab_F) : ab_K := o_push (.int 1) <| o_goto 13
def bX9_takesE_12 (cal : ab_F) : ab_K := o_push (.int 0) <| o_goto 13
def bX9_takesE_13 (cal : ab_F) : ab_K := o_iast 2 (vp_nar .boolean) <| o_aload 0 <| o_iload 4 <| o_callS cal 194 1 <| o_callV cal 195 1 8 <| o_aload 0 <| o_getf 8 21 <| o_aload 0 <| o_getf 8 22 <| o_iload 4 <| o_iast 0 (fun x => x) <| o_aload 0 <| o_dup <| o_getf 8 22 <| o_push (.int 1) <| o_bin (fun x y => x + y) <| o_putI 8 22 <| o_push (.int 1) <| o_istore 3 <| o_aload 0 <| o_callV cal 191 0 8 <| o_goto 1
def bX9_takesE_14 (cal : ab_F) : ab_K := o_aload 0 <| o_push (.int 0) <| o_callV cal 195 1 8 <| o_iload 1 <| o_if (fun x => decide (¬ x = 0)) 15 <| o_push (.int 1) <| o_goto 16
def bX9_takesE_15 (cal : ab_F) : ab_K := o_push (.int 0) <| o_goto 16
def bX9_takesE_16 (cal : ab_F) : ab_K := o_ret (some .boolean)
def bX9_takesE (cal : ab_F) : List ab_K := [bX9_takesE_0 cal, bX9_takesE_1 cal, bX9_takesE_2 cal, bX9_takesE_3 cal, bX9_takesE_4 cal, bX9_takesE_5 cal, bX9_takesE_6 cal, bX9_takesE_7 cal, bX9_takesE_8 cal, bX9_takesE_9 cal, bX9_takesE_10 cal, bX9_takesE_11 cal, bX9_takesE_12 cal, bX9_takesE_13 cal, bX9_takesE_14 cal, bX9_takesE_15 cal, bX9_takesE_16 cal]
set_option maxRecDepth 100000 in
theorem sX9_takesE_0 {G : ab_G} {xs : List Int32} {d : Nat} {cal : ab_F} (hcs : ab_CS G (ab_Z G xs) ab_Mf cal d) : ab_Sd G (ab_Z G xs) (d + 1) (ab_mY mX9_takesE pX9_takesE) 0 (bX9_takesE_0 cal) :=
  sn_iconst dX9_takesE_0 rfl <| sn_istore_n dX9_takesE_1 rfl (by decide) <| sn_iconst dX9_takesE_2 rfl <| sn_istore_n dX9_takesE_3 rfl (by decide) <| sn_iconst dX9_takesE_4 rfl <| sn_istore_n dX9_takesE_5 rfl (by decide) <| sn_aload_n dX9_takesE_6 rfl <| sn_iconst dX9_takesE_7 rfl <| sn_putI tyX9 tyX9_ok nmX9 dX9_takesE_8 rfl hinX9 (by decide) w_1010 (Or.inl rfl) (tyX9_ok 19 (by decide)) <| sn_aload_n dX9_takesE_11 rfl <| sn_iconst dX9_takesE_12 rfl <| sn_putI tyX9 tyX9_ok nmX9 dX9_takesE_13 rfl hinX9 (by decide) w_1011 (Or.inl rfl) (tyX9_ok 20 (by decide)) <| sn_aload_n dX9_takesE_16 rfl <| sn_iconst dX9_takesE_17 rfl <| sn_putI tyX9 tyX9_ok nmX9 dX9_takesE_18 rfl hinX9 (by decide) w_1013 (Or.inl rfl) (tyX9_ok 22 (by decide)) <| sn_aload_n dX9_takesE_21 rfl <| sn_getf dX9_takesE_22 rfl hinX9 (by decide) w_1014 <| sn_iconst dX9_takesE_25 rfl <| sn_iconst dX9_takesE_26 rfl <| sn_zast dX9_takesE_27 rfl rfl <| sn_next rfl
set_option maxRecDepth 100000 in
theorem sX9_takesE_1 {G : ab_G} {xs : List Int32} {d : Nat} {cal : ab_F} (hcs : ab_CS G (ab_Z G xs) ab_Mf cal d) : ab_Sd G (ab_Z G xs) (d + 1) (ab_mY mX9_takesE pX9_takesE) 28 (bX9_takesE_1 cal) :=
  sn_iload_n dX9_takesE_28 rfl <| sn_if_ne (tg := 39) dX9_takesE_29 rfl rfl <| sn_aload_n dX9_takesE_32 rfl <| sn_getf dX9_takesE_33 rfl hinX9 (by decide) w_1003 <| sn_if_eq (tg := 345) dX9_takesE_36 rfl rfl <| sn_next rfl
set_option maxRecDepth 100000 in
theorem sX9_takesE_2 {G : ab_G} {xs : List Int32} {d : Nat} {cal : ab_F} (hcs : ab_CS G (ab_Z G xs) ab_Mf cal d) : ab_Sd G (ab_Z G xs) (d + 1) (ab_mY mX9_takesE pX9_takesE) 39 (bX9_takesE_2 cal) :=
  sn_iload_n dX9_takesE_39 rfl <| sn_if_eq (tg := 180) dX9_takesE_40 rfl rfl <| sn_aload_n dX9_takesE_43 rfl <| sn_getf dX9_takesE_44 rfl hinX9 (by decide) w_1003 <| sn_iconst dX9_takesE_47 rfl <| sn_cmp_ne (tg := 97) dX9_takesE_48 rfl rfl <| sn_aload_n dX9_takesE_51 rfl <| sn_getf dX9_takesE_52 rfl hinX9 (by decide) w_1004 <| sn_bipush dX9_takesE_55 rfl <| sn_cmp_ne (tg := 97) dX9_takesE_57 rfl rfl <| sn_iload_n dX9_takesE_60 rfl <| sn_bipush dX9_takesE_61 rfl <| sn_cmp_ge (tg := 97) dX9_takesE_63 rfl rfl <| sn_aload_n dX9_takesE_66 rfl <| sn_getf dX9_takesE_67 rfl hinX9 (by decide) w_1012 <| sn_aload_n dX9_takesE_70 rfl <| sn_getf dX9_takesE_71 rfl hinX9 (by decide) w_1013 <| sn_bipush dX9_takesE_74 rfl <| sn_iast dX9_takesE_76 rfl rfl <| sn_aload_n dX9_takesE_77 rfl <| sn_dup dX9_takesE_78 <| sn_getf dX9_takesE_79 rfl hinX9 (by decide) w_1013 <| sn_iconst dX9_takesE_82 rfl <| sn_iadd dX9_takesE_83 <| sn_putI tyX9 tyX9_ok nmX9 dX9_takesE_84 rfl hinX9 (by decide) w_1013 (Or.inl rfl) (tyX9_ok 22 (by decide)) <| sn_iinc dX9_takesE_87 rfl (by decide) <| sn_aload_n dX9_takesE_90 rfl <| sq_callV mt_191 hcs dX9_takesE_91 rfl w_1361 w_1363 w_44 w_63 w_1364 hy_191 hm_191 <| sn_goto (tg := 172) dX9_takesE_94 rfl rfl
set_option maxRecDepth 100000 in
theorem sX9_takesE_3 {G : ab_G} {xs : List Int32} {d : Nat} {cal : ab_F} (hcs : ab_CS G (ab_Z G xs) ab_Mf cal d) : ab_Sd G (ab_Z G xs) (d + 1) (ab_mY mX9_takesE pX9_takesE) 97 (bX9_takesE_3 cal) :=
  sn_aload_n dX9_takesE_97 rfl <| sn_getf dX9_takesE_98 rfl hinX9 (by decide) w_1003 <| sn_iconst dX9_takesE_101 rfl <| sn_cmp_ne (tg := 158) dX9_takesE_102 rfl rfl <| sn_aload_n dX9_takesE_105 rfl <| sn_getf dX9_takesE_106 rfl hinX9 (by decide) w_1004 <| sn_bipush dX9_takesE_109 rfl <| sn_cmp_ne (tg := 158) dX9_takesE_111 rfl rfl <| sn_iload_n dX9_takesE_114 rfl <| sn_bipush dX9_takesE_115 rfl <| sn_cmp_ge (tg := 158) dX9_takesE_117 rfl rfl <| sn_aload_n dX9_takesE_120 rfl <| sn_getf dX9_takesE_121 rfl hinX9 (by decide) w_1012 <| sn_aload_n dX9_takesE_124 rfl <| sn_getf dX9_takesE_125 rfl hinX9 (by decide) w_1013 <| sn_bipush dX9_takesE_128 rfl <| sn_iast dX9_takesE_130 rfl rfl <| sn_aload_n dX9_takesE_131 rfl <| sn_dup dX9_takesE_132 <| sn_getf dX9_takesE_133 rfl hinX9 (by decide) w_1013 <| sn_iconst dX9_takesE_136 rfl <| sn_iadd dX9_takesE_137 <| sn_putI tyX9 tyX9_ok nmX9 dX9_takesE_138 rfl hinX9 (by decide) w_1013 (Or.inl rfl) (tyX9_ok 22 (by decide)) <| sn_iinc dX9_takesE_141 rfl (by decide) <| sn_aload_n dX9_takesE_144 rfl <| sn_getf dX9_takesE_145 rfl hinX9 (by decide) w_1014 <| sn_iload_n dX9_takesE_148 rfl <| sn_iconst dX9_takesE_149 rfl <| sn_zast dX9_takesE_150 rfl rfl <| sn_aload_n dX9_takesE_151 rfl <| sq_callV mt_191 hcs dX9_takesE_152 rfl w_1361 w_1363 w_44 w_63 w_1364 hy_191 hm_191 <| sn_goto (tg := 172) dX9_takesE_155 rfl rfl
set_option maxRecDepth 100000 in
theorem sX9_takesE_4 {G : ab_G} {xs : List Int32} {d : Nat} {cal : ab_F} (hcs : ab_CS G (ab_Z G xs) ab_Mf cal d) : ab_Sd G (ab_Z G xs) (d + 1) (ab_mY mX9_takesE pX9_takesE) 158 (bX9_takesE_4 cal) :=
  sn_aload_n dX9_takesE_158 rfl <| sq_callV mt_197 hcs dX9_takesE_159 rfl w_1381 w_1383 w_49 w_63 w_1384 hy_197 hm_197 <| sn_if_eq (tg := 170) dX9_takesE_162 rfl rfl <| sn_iconst dX9_takesE_165 rfl <| sn_istore_n dX9_takesE_166 rfl (by decide) <| sn_goto (tg := 172) dX9_takesE_167 rfl rfl
set_option maxRecDepth 100000 in
theorem sX9_takesE_5 {G : ab_G} {xs : List Int32} {d : Nat} {cal : ab_F} (hcs : ab_CS G (ab_Z G xs) ab_Mf cal d) : ab_Sd G (ab_Z G xs) (d + 1) (ab_mY mX9_takesE pX9_takesE) 170 (bX9_takesE_5 cal) :=
  sn_iconst dX9_takesE_170 rfl <| sn_ret dX9_takesE_171 ab_ri_bool
set_option maxRecDepth 100000 in
theorem sX9_takesE_6 {G : ab_G} {xs : List Int32} {d : Nat} {cal : ab_F} (hcs : ab_CS G (ab_Z G xs) ab_Mf cal d) : ab_Sd G (ab_Z G xs) (d + 1) (ab_mY mX9_takesE pX9_takesE) 172 (bX9_takesE_6 cal) :=
  sn_aload_n dX9_takesE_172 rfl <| sq_callV mt_199 hcs dX9_takesE_173 rfl w_1396 w_1398 w_52 w_63 w_1399 hy_199 hm_199 <| sn_istore_n dX9_takesE_176 rfl (by decide) <| sn_goto (tg := 28) dX9_takesE_177 rfl rfl
set_option maxRecDepth 100000 in
theorem sX9_takesE_7 {G : ab_G} {xs : List Int32} {d : Nat} {cal : ab_F} (hcs : ab_CS G (ab_Z G xs) ab_Mf cal d) : ab_Sd G (ab_Z G xs) (d + 1) (ab_mY mX9_takesE pX9_takesE) 180 (bX9_takesE_7 cal) :=
  sn_aload_n dX9_takesE_180 rfl <| sn_getf dX9_takesE_181 rfl hinX9 (by decide) w_1003 <| sn_iconst dX9_takesE_184 rfl <| sn_cmp_ne (tg := 237) dX9_takesE_185 rfl rfl <| sn_aload_n dX9_takesE_188 rfl <| sn_getf dX9_takesE_189 rfl hinX9 (by decide) w_1004 <| sn_bipush dX9_takesE_192 rfl <| sn_cmp_ne (tg := 237) dX9_takesE_194 rfl rfl <| sn_iload_n dX9_takesE_197 rfl <| sn_if_le (tg := 237) dX9_takesE_198 rfl rfl <| sn_aload_n dX9_takesE_201 rfl <| sn_iconst dX9_takesE_202 rfl <| sq_callV mt_195 hcs dX9_takesE_203 rfl w_1389 w_1391 w_51 w_63 w_1392 hy_195 hm_195 <| sn_aload_n dX9_takesE_206 rfl <| sn_dup dX9_takesE_207 <| sn_getf dX9_takesE_208 rfl hinX9 (by decide) w_1013 <| sn_iconst dX9_takesE_211 rfl <| sn_isub dX9_takesE_212 <| sn_putI tyX9 tyX9_ok nmX9 dX9_takesE_213 rfl hinX9 (by decide) w_1013 (Or.inl rfl) (tyX9_ok 22 (by decide)) <| sn_iinc dX9_takesE_216 rfl (by decide) <| sn_aload_n dX9_takesE_219 rfl <| sn_bipush dX9_takesE_220 rfl <| sq_callV mt_195 hcs dX9_takesE_222 rfl w_1389 w_1391 w_51 w_63 w_1392 hy_195 hm_195 <| sn_aload_n dX9_takesE_225 rfl <| sq_callV mt_199 hcs dX9_takesE_226 rfl w_1396 w_1398 w_52 w_63 w_1399 hy_199 hm_199 <| sn_istore_n dX9_takesE_229 rfl (by decide) <| sn_aload_n dX9_takesE_230 rfl <| sq_callV mt_191 hcs dX9_takesE_231 rfl w_1361 w_1363 w_44 w_63 w_1364 hy_191 hm_191 <| sn_goto (tg := 28) dX9_takesE_234 rfl rfl
set_option maxRecDepth 100000 in
theorem sX9_takesE_8 {G : ab_G} {xs : List Int32} {d : Nat} {cal : ab_F} (hcs : ab_CS G (ab_Z G xs) ab_Mf cal d) : ab_Sd G (ab_Z G xs) (d + 1) (ab_mY mX9_takesE pX9_takesE) 237 (bX9_takesE_8 cal) :=
  sn_aload_n dX9_takesE_237 rfl <| sq_callV mt_196 hcs dX9_takesE_238 rfl w_1400 w_1402 w_53 w_63 w_1403 hy_196 hm_196 <| sn_istore dX9_takesE_241 (by decide) <| sn_iload dX9_takesE_243 <| sn_if_eq (tg := 266) dX9_takesE_245 rfl rfl <| sn_iload dX9_takesE_248 <| sq_callS mt_194 hcs dX9_takesE_250 w_1393 w_1394 w_63 w_1395 hy_194 hm_194 <| sn_iconst dX9_takesE_253 rfl <| sn_cmp_ne (tg := 268) dX9_takesE_254 rfl rfl <| sn_aload_n dX9_takesE_257 rfl <| sn_getf dX9_takesE_258 rfl hinX9 (by decide) w_1014 <| sn_iload_n dX9_takesE_261 rfl <| sn_zald dX9_takesE_262 rfl <| sn_if_eq (tg := 268) dX9_takesE_263 rfl rfl <| sn_next rfl
set_option maxRecDepth 100000 in
theorem sX9_takesE_9 {G : ab_G} {xs : List Int32} {d : Nat} {cal : ab_F} (hcs : ab_CS G (ab_Z G xs) ab_Mf cal d) : ab_Sd G (ab_Z G xs) (d + 1) (ab_mY mX9_takesE pX9_takesE) 266 (bX9_takesE_9 cal) :=
  sn_iconst dX9_takesE_266 rfl <| sn_ret dX9_takesE_267 ab_ri_bool
set_option maxRecDepth 100000 in
theorem sX9_takesE_10 {G : ab_G} {xs : List Int32} {d : Nat} {cal : ab_F} (hcs : ab_CS G (ab_Z G xs) ab_Mf cal d) : ab_Sd G (ab_Z G xs) (d + 1) (ab_mY mX9_takesE pX9_takesE) 268 (bX9_takesE_10 cal) :=
  sn_aload_n dX9_takesE_268 rfl <| sn_getf dX9_takesE_269 rfl hinX9 (by decide) w_1014 <| sn_iload_n dX9_takesE_272 rfl <| sn_iload dX9_takesE_273 <| sq_callS mt_194 hcs dX9_takesE_275 w_1393 w_1394 w_63 w_1395 hy_194 hm_194 <| sn_iconst dX9_takesE_278 rfl <| sn_cmp_eq (tg := 300) dX9_takesE_279 rfl rfl <| sn_iload dX9_takesE_282 <| sq_callS mt_194 hcs dX9_takesE_284 w_1393 w_1394 w_63 w_1395 hy_194 hm_194 <| sn_iconst dX9_takesE_287 rfl <| sn_cmp_le (tg := 304) dX9_takesE_288 rfl rfl <| sn_aload_n dX9_takesE_291 rfl <| sn_getf dX9_takesE_292 rfl hinX9 (by decide) w_1014 <| sn_iload_n dX9_takesE_295 rfl <| sn_zald dX9_takesE_296 rfl <| sn_if_eq (tg := 304) dX9_takesE_297 rfl rfl <| sn_next rfl
set_option maxRecDepth 100000 in
theorem sX9_takesE_11 {G : ab_G} {xs : List Int32} {d : Nat} {cal : ab_F} (hcs : ab_CS G (ab_Z G xs) ab_Mf cal d) : ab_Sd G (ab_Z G xs) (d + 1) (ab_mY mX9_takesE pX9_takesE) 300 (bX9_takesE_11 cal) :=
  sn_iconst dX9_takesE_300 rfl <| sn_goto (tg := 305) dX9_takesE_301 rfl rfl
set_option maxRecDepth 100000 in
theorem sX9_takesE_12 {G : ab_G} {xs : List Int32} {d : Nat} {cal : ab_F} (hcs : ab_CS G (ab_Z G xs) ab_Mf cal d) : ab_Sd G (ab_Z G xs) (d + 1) (ab_mY mX9_takesE pX9_takesE) 304 (bX9_takesE_12 cal) :=
  sn_iconst dX9_takesE_304 rfl <| sn_next rfl
set_option maxRecDepth 100000 in
theorem sX9_takesE_13 {G : ab_G} {xs : List Int32} {d : Nat} {cal : ab_F} (hcs : ab_CS G (ab_Z G xs) ab_Mf cal d) : ab_Sd G (ab_Z G xs) (d + 1) (ab_mY mX9_takesE pX9_takesE) 305 (bX9_takesE_13 cal) :=
  sn_zast dX9_takesE_305 rfl rfl <| sn_aload_n dX9_takesE_306 rfl <| sn_iload dX9_takesE_307 <| sq_callS mt_194 hcs dX9_takesE_309 w_1393 w_1394 w_63 w_1395 hy_194 hm_194 <| sq_callV mt_195 hcs dX9_takesE_312 rfl w_1389 w_1391 w_51 w_63 w_1392 hy_195 hm_195 <| sn_aload_n dX9_takesE_315 rfl <| sn_getf dX9_takesE_316 rfl hinX9 (by decide) w_1012 <| sn_aload_n dX9_takesE_319 rfl <| sn_getf dX9_takesE_320 rfl hinX9 (by decide) w_1013 <| sn_iload dX9_takesE_323 <| sn_iast dX9_takesE_325 rfl rfl <| sn_aload_n dX9_takesE_326 rfl <| sn_dup dX9_takesE_327 <| sn_getf dX9_takesE_328 rfl hinX9 (by decide) w_1013 <| sn_iconst dX9_takesE_331 rfl <| sn_iadd dX9_takesE_332 <| sn_putI tyX9 tyX9_ok nmX9 dX9_takesE_333 rfl hinX9 (by decide) w_1013 (Or.inl rfl) (tyX9_ok 22 (by decide)) <| sn_iconst dX9_takesE_336 rfl <| sn_istore_n dX9_takesE_337 rfl (by decide) <| sn_aload_n dX9_takesE_338 rfl <| sq_callV mt_191 hcs dX9_takesE_339 rfl w_1361 w_1363 w_44 w_63 w_1364 hy_191 hm_191 <| sn_goto (tg := 28) dX9_takesE_342 rfl rfl
set_option maxRecDepth 100000 in
theorem sX9_takesE_14 {G : ab_G} {xs : List Int32} {d : Nat} {cal : ab_F} (hcs : ab_CS G (ab_Z G xs) ab_Mf cal d) : ab_Sd G (ab_Z G xs) (d + 1) (ab_mY mX9_takesE pX9_takesE) 345 (bX9_takesE_14 cal) :=
  sn_aload_n dX9_takesE_345 rfl <| sn_iconst dX9_takesE_346 rfl <| sq_callV mt_195 hcs dX9_takesE_347 rfl w_1389 w_1391 w_51 w_63 w_1392 hy_195 hm_195 <| sn_iload_n dX9_takesE_350 rfl <| sn_if_ne (tg := 358) dX9_takesE_351 rfl rfl <| sn_iconst dX9_takesE_354 rfl <| sn_goto (tg := 359) dX9_takesE_355 rfl rfl
set_option maxRecDepth 100000 in
theorem sX9_takesE_15 {G : ab_G} {xs : List Int32} {d : Nat} {cal : ab_F} (hcs : ab_CS G (ab_Z G xs) ab_Mf cal d) : ab_Sd G (ab_Z G xs) (d + 1) (ab_mY mX9_takesE pX9_takesE) 358 (bX9_takesE_15 cal) :=
  sn_iconst dX9_takesE_358 rfl <| sn_next rfl
set_option maxRecDepth 100000 in
theorem sX9_takesE_16 {G : ab_G} {xs : List Int32} {d : Nat} {cal : ab_F} (hcs : ab_CS G (ab_Z G xs) ab_Mf cal d) : ab_Sd G (ab_Z G xs) (d + 1) (ab_mY mX9_takesE pX9_takesE) 359 (bX9_takesE_16 cal) :=
  sn_ret dX9_takesE_359 ab_ri_bool
theorem sX9_takesE {G : ab_G} {xs : List Int32} {d : Nat} {cal : ab_F} (hcs : ab_CS G (ab_Z G xs) ab_Mf cal d) : ab_BS G (ab_Z G xs) (d + 1) (ab_mY mX9_takesE pX9_takesE) pX9_takesE (bX9_takesE cal) := ⟨sX9_takesE_0 hcs, sX9_takesE_1 hcs, sX9_takesE_2 hcs, sX9_takesE_3 hcs, sX9_takesE_4 hcs, sX9_takesE_5 hcs, sX9_takesE_6 hcs, sX9_takesE_7 hcs, sX9_takesE_8 hcs, sX9_takesE_9 hcs, sX9_takesE_10 hcs, sX9_takesE_11 hcs, sX9_takesE_12 hcs, sX9_takesE_13 hcs, sX9_takesE_14 hcs, sX9_takesE_15 hcs, sX9_takesE_16 hcs, trivial⟩
theorem dgX9_notsOpen_0 : decode cX9_notsOpen 0 = .ok (.iconst 0, 1) ∧ decode cX9_notsOpen 1 = .ok (.istore_n 1, 1) ∧ decode cX9_notsOpen 2 = .ok (.iconst 0, 1) ∧ decode cX9_notsOpen 3 = .ok (.istore_n 2, 1) ∧ decode cX9_notsOpen 4 = .ok (.iload_n 2, 1) ∧ decode cX9_notsOpen 5 = .ok (.aload_n 0, 1) ∧ decode cX9_notsOpen 6 = .ok (.getfield 244, 3) ∧ decode cX9_notsOpen 9 = .ok (.if_icmp .ge 28, 3) ∧ decode cX9_notsOpen 12 = .ok (.iload_n 1, 1) ∧ decode cX9_notsOpen 13 = .ok (.aload_n 0, 1) ∧ decode cX9_notsOpen 14 = .ok (.getfield 45, 3) ∧ decode cX9_notsOpen 17 = .ok (.iload_n 2, 1) ∧ decode cX9_notsOpen 18 = .ok (.iaload, 1) ∧ decode cX9_notsOpen 19 = .ok (.bipush (-10), 2) ∧ decode cX9_notsOpen 21 = .ok (.if_icmp .ne 7, 3) ∧ decode cX9_notsOpen 24 = .ok (.iconst 1, 1) := by decide +kernel
theorem dX9_notsOpen_0 : decode cX9_notsOpen 0 = .ok (.iconst 0, 1) := dgX9_notsOpen_0.1
theorem dX9_notsOpen_1 : decode cX9_notsOpen 1 = .ok (.istore_n 1, 1) := dgX9_notsOpen_0.2.1
theorem dX9_notsOpen_2 : decode cX9_notsOpen 2 = .ok (.iconst 0, 1) := dgX9_notsOpen_0.2.2.1
theorem dX9_notsOpen_3 : decode cX9_notsOpen 3 = .ok (.istore_n 2, 1) := dgX9_notsOpen_0.2.2.2.1
theorem dX9_notsOpen_4 : decode cX9_notsOpen 4 = .ok (.iload_n 2, 1) := dgX9_notsOpen_0.2.2.2.2.1
theorem dX9_notsOpen_5 : decode cX9_notsOpen 5 = .ok (.aload_n 0, 1) := dgX9_notsOpen_0.2.2.2.2.2.1
theorem dX9_notsOpen_6 : decode cX9_notsOpen 6 = .ok (.getfield 244, 3) := dgX9_notsOpen_0.2.2.2.2.2.2.1
theorem dX9_notsOpen_9 : decode cX9_notsOpen 9 = .ok (.if_icmp .ge 28, 3) := dgX9_notsOpen_0.2.2.2.2.2.2.2.1
theorem dX9_notsOpen_12 : decode cX9_notsOpen 12 = .ok (.iload_n 1, 1) := dgX9_notsOpen_0.2.2.2.2.2.2.2.2.1
theorem dX9_notsOpen_13 : decode cX9_notsOpen 13 = .ok (.aload_n 0, 1) := dgX9_notsOpen_0.2.2.2.2.2.2.2.2.2.1
theorem dX9_notsOpen_14 : decode cX9_notsOpen 14 = .ok (.getfield 45, 3) := dgX9_notsOpen_0.2.2.2.2.2.2.2.2.2.2.1
theorem dX9_notsOpen_17 : decode cX9_notsOpen 17 = .ok (.iload_n 2, 1) := dgX9_notsOpen_0.2.2.2.2.2.2.2.2.2.2.2.1
theorem dX9_notsOpen_18 : decode cX9_notsOpen 18 = .ok (.iaload, 1) := dgX9_notsOpen_0.2.2.2.2.2.2.2.2.2.2.2.2.1
theorem dX9_notsOpen_19 : decode cX9_notsOpen 19 = .ok (.bipush (-10), 2) := dgX9_notsOpen_0.2.2.2.2.2.2.2.2.2.2.2.2.2.1
theorem dX9_notsOpen_21 : decode cX9_notsOpen 21 = .ok (.if_icmp .ne 7, 3) := dgX9_notsOpen_0.2.2.2.2.2.2.2.2.2.2.2.2.2.2.1
theorem dX9_notsOpen_24 : decode cX9_notsOpen 24 = .ok (.iconst 1, 1) := dgX9_notsOpen_0.2.2.2.2.2.2.2.2.2.2.2.2.2.2.2
theorem dgX9_notsOpen_1 : decode cX9_notsOpen 25 = .ok (.goto 4, 3) ∧ decode cX9_notsOpen 28 = .ok (.iconst 0, 1) ∧ decode cX9_notsOpen 29 = .ok (.iadd, 1) ∧ decode cX9_notsOpen 30 = .ok (.istore_n 1, 1) ∧ decode cX9_notsOpen 31 = .ok (.iinc 2 1, 3) ∧ decode cX9_notsOpen 34 = .ok (.goto (-30), 3) ∧ decode cX9_notsOpen 37 = .ok (.iload_n 1, 1) ∧ decode cX9_notsOpen 38 = .ok (.ireturn, 1) := by decide +kernel
theorem dX9_notsOpen_25 : decode cX9_notsOpen 25 = .ok (.goto 4, 3) := dgX9_notsOpen_1.1
theorem dX9_notsOpen_28 : decode cX9_notsOpen 28 = .ok (.iconst 0, 1) := dgX9_notsOpen_1.2.1
theorem dX9_notsOpen_29 : decode cX9_notsOpen 29 = .ok (.iadd, 1) := dgX9_notsOpen_1.2.2.1
theorem dX9_notsOpen_30 : decode cX9_notsOpen 30 = .ok (.istore_n 1, 1) := dgX9_notsOpen_1.2.2.2.1
theorem dX9_notsOpen_31 : decode cX9_notsOpen 31 = .ok (.iinc 2 1, 3) := dgX9_notsOpen_1.2.2.2.2.1
theorem dX9_notsOpen_34 : decode cX9_notsOpen 34 = .ok (.goto (-30), 3) := dgX9_notsOpen_1.2.2.2.2.2.1
theorem dX9_notsOpen_37 : decode cX9_notsOpen 37 = .ok (.iload_n 1, 1) := dgX9_notsOpen_1.2.2.2.2.2.2.1
theorem dX9_notsOpen_38 : decode cX9_notsOpen 38 = .ok (.ireturn, 1) := dgX9_notsOpen_1.2.2.2.2.2.2.2
abbrev pX9_notsOpen : List Nat := [0, 4, 28, 29, 37]
def bX9_notsOpen_0 (cal : ab_F) : ab_K := o_push (.int 0) <| o_istore 1 <| o_push (.int 0) <| o_istore 2 <| o_goto 1
def bX9_notsOpen_1 (cal : ab_F) : ab_K := o_iload 2 <| o_aload 0 <| o_getf 8 22 <| o_cmp (fun x y => decide (y ≤ x)) 4 <| o_iload 1 <| o_aload 0 <| o_getf 8 21 <| o_iload 2 <| o_iald 0 <| o_push (.int (-10)) <| o_cmp (fun x y => decide (¬ x = y)) 2 <| o_push (.int 1) <| o_goto 3
def bX9_notsOpen_2 (cal : ab_F) : ab_K := o_push (.int 0) <| o_goto 3
def bX9_notsOpen_3 (cal : ab_F) : ab_K := o_bin (fun x y => x + y) <| o_istore 1 <| o_iinc 2 1 <| o_goto 1
def bX9_notsOpen_4 (cal : ab_F) : ab_K := o_iload 1 <| o_ret (some .int)
def bX9_notsOpen (cal : ab_F) : List ab_K := [bX9_notsOpen_0 cal, bX9_notsOpen_1 cal, bX9_notsOpen_2 cal, bX9_notsOpen_3 cal, bX9_notsOpen_4 cal]
set_option maxRecDepth 100000 in
theorem sX9_notsOpen_0 {G : ab_G} {xs : List Int32} {d : Nat} {cal : ab_F} (hcs : ab_CS G (ab_Z G xs) ab_Mf cal d) : ab_Sd G (ab_Z G xs) (d + 1) (ab_mY mX9_notsOpen pX9_notsOpen) 0 (bX9_notsOpen_0 cal) :=
  sn_iconst dX9_notsOpen_0 rfl <| sn_istore_n dX9_notsOpen_1 rfl (by decide) <| sn_iconst dX9_notsOpen_2 rfl <| sn_istore_n dX9_notsOpen_3 rfl (by decide) <| sn_next rfl
set_option maxRecDepth 100000 in
theorem sX9_notsOpen_1 {G : ab_G} {xs : List Int32} {d : Nat} {cal : ab_F} (hcs : ab_CS G (ab_Z G xs) ab_Mf cal d) : ab_Sd G (ab_Z G xs) (d + 1) (ab_mY mX9_notsOpen pX9_notsOpen) 4 (bX9_notsOpen_1 cal) :=
  sn_iload_n dX9_notsOpen_4 rfl <| sn_aload_n dX9_notsOpen_5 rfl <| sn_getf dX9_notsOpen_6 rfl hinX9 (by decide) w_1013 <| sn_cmp_ge (tg := 37) dX9_notsOpen_9 rfl rfl <| sn_iload_n dX9_notsOpen_12 rfl <| sn_aload_n dX9_notsOpen_13 rfl <| sn_getf dX9_notsOpen_14 rfl hinX9 (by decide) w_1012 <| sn_iload_n dX9_notsOpen_17 rfl <| sn_iald dX9_notsOpen_18 rfl <| sn_bipush dX9_notsOpen_19 rfl <| sn_cmp_ne (tg := 28) dX9_notsOpen_21 rfl rfl <| sn_iconst dX9_notsOpen_24 rfl <| sn_goto (tg := 29) dX9_notsOpen_25 rfl rfl
set_option maxRecDepth 100000 in
theorem sX9_notsOpen_2 {G : ab_G} {xs : List Int32} {d : Nat} {cal : ab_F} (hcs : ab_CS G (ab_Z G xs) ab_Mf cal d) : ab_Sd G (ab_Z G xs) (d + 1) (ab_mY mX9_notsOpen pX9_notsOpen) 28 (bX9_notsOpen_2 cal) :=
  sn_iconst dX9_notsOpen_28 rfl <| sn_next rfl
set_option maxRecDepth 100000 in
theorem sX9_notsOpen_3 {G : ab_G} {xs : List Int32} {d : Nat} {cal : ab_F} (hcs : ab_CS G (ab_Z G xs) ab_Mf cal d) : ab_Sd G (ab_Z G xs) (d + 1) (ab_mY mX9_notsOpen pX9_notsOpen) 29 (bX9_notsOpen_3 cal) :=
  sn_iadd dX9_notsOpen_29 <| sn_istore_n dX9_notsOpen_30 rfl (by decide) <| sn_iinc dX9_notsOpen_31 rfl (by decide) <| sn_goto (tg := 4) dX9_notsOpen_34 rfl rfl
set_option maxRecDepth 100000 in
theorem sX9_notsOpen_4 {G : ab_G} {xs : List Int32} {d : Nat} {cal : ab_F} (hcs : ab_CS G (ab_Z G xs) ab_Mf cal d) : ab_Sd G (ab_Z G xs) (d + 1) (ab_mY mX9_notsOpen pX9_notsOpen) 37 (bX9_notsOpen_4 cal) :=
  sn_iload_n dX9_notsOpen_37 rfl <| sn_ret dX9_notsOpen_38 ab_ri_int
theorem sX9_notsOpen {G : ab_G} {xs : List Int32} {d : Nat} {cal : ab_F} (hcs : ab_CS G (ab_Z G xs) ab_Mf cal d) : ab_BS G (ab_Z G xs) (d + 1) (ab_mY mX9_notsOpen pX9_notsOpen) pX9_notsOpen (bX9_notsOpen cal) := ⟨sX9_notsOpen_0 hcs, sX9_notsOpen_1 hcs, sX9_notsOpen_2 hcs, sX9_notsOpen_3 hcs, sX9_notsOpen_4 hcs, trivial⟩
theorem dgX9_text_0 : decode cX9_text 0 = .ok (.aload_n 0, 1) ∧ decode cX9_text 1 = .ok (.iconst 0, 1) ∧ decode cX9_text 2 = .ok (.putfield 217, 3) ∧ decode cX9_text 5 = .ok (.aload_n 0, 1) ∧ decode cX9_text 6 = .ok (.iconst (-1), 1) ∧ decode cX9_text 7 = .ok (.putfield 223, 3) ∧ decode cX9_text 10 = .ok (.aload_n 0, 1) ∧ decode cX9_text 11 = .ok (.invokevirtual 241, 3) ∧ decode cX9_text 14 = .ok (.aload_n 0, 1) ∧ decode cX9_text 15 = .ok (.invokevirtual 271, 3) ∧ decode cX9_text 18 = .ok (.ifCond .eq 14, 3) ∧ decode cX9_text 21 = .ok (.aload_n 0, 1) ∧ decode cX9_text 22 = .ok (.invokevirtual 274, 3) ∧ decode cX9_text 25 = .ok (.ifCond .eq 7, 3) ∧ decode cX9_text 28 = .ok (.iconst 1, 1) ∧ decode cX9_text 29 = .ok (.goto 4, 3) := by decide +kernel
theorem dX9_text_0 : decode cX9_text 0 = .ok (.aload_n 0, 1) := dgX9_text_0.1
theorem dX9_text_1 : decode cX9_text 1 = .ok (.iconst 0, 1) := dgX9_text_0.2.1
theorem dX9_text_2 : decode cX9_text 2 = .ok (.putfield 217, 3) := dgX9_text_0.2.2.1
theorem dX9_text_5 : decode cX9_text 5 = .ok (.aload_n 0, 1) := dgX9_text_0.2.2.2.1
theorem dX9_text_6 : decode cX9_text 6 = .ok (.iconst (-1), 1) := dgX9_text_0.2.2.2.2.1
theorem dX9_text_7 : decode cX9_text 7 = .ok (.putfield 223, 3) := dgX9_text_0.2.2.2.2.2.1
theorem dX9_text_10 : decode cX9_text 10 = .ok (.aload_n 0, 1) := dgX9_text_0.2.2.2.2.2.2.1
theorem dX9_text_11 : decode cX9_text 11 = .ok (.invokevirtual 241, 3) := dgX9_text_0.2.2.2.2.2.2.2.1
theorem dX9_text_14 : decode cX9_text 14 = .ok (.aload_n 0, 1) := dgX9_text_0.2.2.2.2.2.2.2.2.1
theorem dX9_text_15 : decode cX9_text 15 = .ok (.invokevirtual 271, 3) := dgX9_text_0.2.2.2.2.2.2.2.2.2.1
theorem dX9_text_18 : decode cX9_text 18 = .ok (.ifCond .eq 14, 3) := dgX9_text_0.2.2.2.2.2.2.2.2.2.2.1
theorem dX9_text_21 : decode cX9_text 21 = .ok (.aload_n 0, 1) := dgX9_text_0.2.2.2.2.2.2.2.2.2.2.2.1
theorem dX9_text_22 : decode cX9_text 22 = .ok (.invokevirtual 274, 3) := dgX9_text_0.2.2.2.2.2.2.2.2.2.2.2.2.1
theorem dX9_text_25 : decode cX9_text 25 = .ok (.ifCond .eq 7, 3) := dgX9_text_0.2.2.2.2.2.2.2.2.2.2.2.2.2.1
theorem dX9_text_28 : decode cX9_text 28 = .ok (.iconst 1, 1) := dgX9_text_0.2.2.2.2.2.2.2.2.2.2.2.2.2.2.1
theorem dX9_text_29 : decode cX9_text 29 = .ok (.goto 4, 3) := dgX9_text_0.2.2.2.2.2.2.2.2.2.2.2.2.2.2.2
theorem dgX9_text_1 : decode cX9_text 32 = .ok (.iconst 0, 1) ∧ decode cX9_text 33 = .ok (.istore_n 1, 1) ∧ decode cX9_text 34 = .ok (.aload_n 0, 1) ∧ decode cX9_text 35 = .ok (.iconst 0, 1) ∧ decode cX9_text 36 = .ok (.putfield 214, 3) ∧ decode cX9_text 39 = .ok (.iload_n 1, 1) ∧ decode cX9_text 40 = .ok (.ifCond .ne 11, 3) ∧ decode cX9_text 43 = .ok (.bipush (-100), 2) ∧ decode cX9_text 45 = .ok (.aload_n 0, 1) ∧ decode cX9_text 46 = .ok (.getfield 220, 3) ∧ decode cX9_text 49 = .ok (.isub, 1) ∧ decode cX9_text 50 = .ok (.ireturn, 1) ∧ decode cX9_text 51 = .ok (.aload_n 0, 1) ∧ decode cX9_text 52 = .ok (.getfield 9, 3) ∧ decode cX9_text 55 = .ok (.iconst 4, 1) ∧ decode cX9_text 56 = .ok (.iaload, 1) := by decide +kernel
theorem dX9_text_32 : decode cX9_text 32 = .ok (.iconst 0, 1) := dgX9_text_1.1
theorem dX9_text_33 : decode cX9_text 33 = .ok (.istore_n 1, 1) := dgX9_text_1.2.1
theorem dX9_text_34 : decode cX9_text 34 = .ok (.aload_n 0, 1) := dgX9_text_1.2.2.1
theorem dX9_text_35 : decode cX9_text 35 = .ok (.iconst 0, 1) := dgX9_text_1.2.2.2.1
theorem dX9_text_36 : decode cX9_text 36 = .ok (.putfield 214, 3) := dgX9_text_1.2.2.2.2.1
theorem dX9_text_39 : decode cX9_text 39 = .ok (.iload_n 1, 1) := dgX9_text_1.2.2.2.2.2.1
theorem dX9_text_40 : decode cX9_text 40 = .ok (.ifCond .ne 11, 3) := dgX9_text_1.2.2.2.2.2.2.1
theorem dX9_text_43 : decode cX9_text 43 = .ok (.bipush (-100), 2) := dgX9_text_1.2.2.2.2.2.2.2.1
theorem dX9_text_45 : decode cX9_text 45 = .ok (.aload_n 0, 1) := dgX9_text_1.2.2.2.2.2.2.2.2.1
theorem dX9_text_46 : decode cX9_text 46 = .ok (.getfield 220, 3) := dgX9_text_1.2.2.2.2.2.2.2.2.2.1
theorem dX9_text_49 : decode cX9_text 49 = .ok (.isub, 1) := dgX9_text_1.2.2.2.2.2.2.2.2.2.2.1
theorem dX9_text_50 : decode cX9_text 50 = .ok (.ireturn, 1) := dgX9_text_1.2.2.2.2.2.2.2.2.2.2.2.1
theorem dX9_text_51 : decode cX9_text 51 = .ok (.aload_n 0, 1) := dgX9_text_1.2.2.2.2.2.2.2.2.2.2.2.2.1
theorem dX9_text_52 : decode cX9_text 52 = .ok (.getfield 9, 3) := dgX9_text_1.2.2.2.2.2.2.2.2.2.2.2.2.2.1
theorem dX9_text_55 : decode cX9_text 55 = .ok (.iconst 4, 1) := dgX9_text_1.2.2.2.2.2.2.2.2.2.2.2.2.2.2.1
theorem dX9_text_56 : decode cX9_text 56 = .ok (.iaload, 1) := dgX9_text_1.2.2.2.2.2.2.2.2.2.2.2.2.2.2.2
theorem dgX9_text_2 : decode cX9_text 57 = .ok (.bipush 14, 2) ∧ decode cX9_text 59 = .ok (.if_icmp .ne 6, 3) ∧ decode cX9_text 62 = .ok (.ldc 91, 2) ∧ decode cX9_text 64 = .ok (.ireturn, 1) ∧ decode cX9_text 65 = .ok (.aload_n 0, 1) ∧ decode cX9_text 66 = .ok (.getfield 9, 3) ∧ decode cX9_text 69 = .ok (.iconst 4, 1) ∧ decode cX9_text 70 = .ok (.iaload, 1) ∧ decode cX9_text 71 = .ok (.istore_n 2, 1) ∧ decode cX9_text 72 = .ok (.aload_n 0, 1) ∧ decode cX9_text 73 = .ok (.getfield 9, 3) ∧ decode cX9_text 76 = .ok (.bipush 89, 2) ∧ decode cX9_text 78 = .ok (.iconst 2, 1) ∧ decode cX9_text 79 = .ok (.iload_n 2, 1) ∧ decode cX9_text 80 = .ok (.imul, 1) ∧ decode cX9_text 81 = .ok (.iadd, 1) := by decide +kernel
theorem dX9_text_57 : decode cX9_text 57 = .ok (.bipush 14, 2) := dgX9_text_2.1
theorem dX9_text_59 : decode cX9_text 59 = .ok (.if_icmp .ne 6, 3) := dgX9_text_2.2.1
theorem dX9_text_62 : decode cX9_text 62 = .ok (.ldc 91, 2) := dgX9_text_2.2.2.1
theorem dX9_text_64 : decode cX9_text 64 = .ok (.ireturn, 1) := dgX9_text_2.2.2.2.1
theorem dX9_text_65 : decode cX9_text 65 = .ok (.aload_n 0, 1) := dgX9_text_2.2.2.2.2.1
theorem dX9_text_66 : decode cX9_text 66 = .ok (.getfield 9, 3) := dgX9_text_2.2.2.2.2.2.1
theorem dX9_text_69 : decode cX9_text 69 = .ok (.iconst 4, 1) := dgX9_text_2.2.2.2.2.2.2.1
theorem dX9_text_70 : decode cX9_text 70 = .ok (.iaload, 1) := dgX9_text_2.2.2.2.2.2.2.2.1
theorem dX9_text_71 : decode cX9_text 71 = .ok (.istore_n 2, 1) := dgX9_text_2.2.2.2.2.2.2.2.2.1
theorem dX9_text_72 : decode cX9_text 72 = .ok (.aload_n 0, 1) := dgX9_text_2.2.2.2.2.2.2.2.2.2.1
theorem dX9_text_73 : decode cX9_text 73 = .ok (.getfield 9, 3) := dgX9_text_2.2.2.2.2.2.2.2.2.2.2.1
theorem dX9_text_76 : decode cX9_text 76 = .ok (.bipush 89, 2) := dgX9_text_2.2.2.2.2.2.2.2.2.2.2.2.1
theorem dX9_text_78 : decode cX9_text 78 = .ok (.iconst 2, 1) := dgX9_text_2.2.2.2.2.2.2.2.2.2.2.2.2.1
theorem dX9_text_79 : decode cX9_text 79 = .ok (.iload_n 2, 1) := dgX9_text_2.2.2.2.2.2.2.2.2.2.2.2.2.2.1
theorem dX9_text_80 : decode cX9_text 80 = .ok (.imul, 1) := dgX9_text_2.2.2.2.2.2.2.2.2.2.2.2.2.2.2.1
theorem dX9_text_81 : decode cX9_text 81 = .ok (.iadd, 1) := dgX9_text_2.2.2.2.2.2.2.2.2.2.2.2.2.2.2.2
theorem dgX9_text_3 : decode cX9_text 82 = .ok (.sipush 1000, 3) ∧ decode cX9_text 85 = .ok (.aload_n 0, 1) ∧ decode cX9_text 86 = .ok (.getfield 238, 3) ∧ decode cX9_text 89 = .ok (.imul, 1) ∧ decode cX9_text 90 = .ok (.aload_n 0, 1) ∧ decode cX9_text 91 = .ok (.getfield 250, 3) ∧ decode cX9_text 94 = .ok (.iadd, 1) ∧ decode cX9_text 95 = .ok (.iastore, 1) ∧ decode cX9_text 96 = .ok (.aload_n 0, 1) ∧ decode cX9_text 97 = .ok (.getfield 9, 3) ∧ decode cX9_text 100 = .ok (.bipush 89, 2) ∧ decode cX9_text 102 = .ok (.iconst 2, 1) ∧ decode cX9_text 103 = .ok (.iload_n 2, 1) ∧ decode cX9_text 104 = .ok (.imul, 1) ∧ decode cX9_text 105 = .ok (.iadd, 1) ∧ decode cX9_text 106 = .ok (.iconst 1, 1) := by decide +kernel
theorem dX9_text_82 : decode cX9_text 82 = .ok (.sipush 1000, 3) := dgX9_text_3.1
theorem dX9_text_85 : decode cX9_text 85 = .ok (.aload_n 0, 1) := dgX9_text_3.2.1
theorem dX9_text_86 : decode cX9_text 86 = .ok (.getfield 238, 3) := dgX9_text_3.2.2.1
theorem dX9_text_89 : decode cX9_text 89 = .ok (.imul, 1) := dgX9_text_3.2.2.2.1
theorem dX9_text_90 : decode cX9_text 90 = .ok (.aload_n 0, 1) := dgX9_text_3.2.2.2.2.1
theorem dX9_text_91 : decode cX9_text 91 = .ok (.getfield 250, 3) := dgX9_text_3.2.2.2.2.2.1
theorem dX9_text_94 : decode cX9_text 94 = .ok (.iadd, 1) := dgX9_text_3.2.2.2.2.2.2.1
theorem dX9_text_95 : decode cX9_text 95 = .ok (.iastore, 1) := dgX9_text_3.2.2.2.2.2.2.2.1
theorem dX9_text_96 : decode cX9_text 96 = .ok (.aload_n 0, 1) := dgX9_text_3.2.2.2.2.2.2.2.2.1
theorem dX9_text_97 : decode cX9_text 97 = .ok (.getfield 9, 3) := dgX9_text_3.2.2.2.2.2.2.2.2.2.1
theorem dX9_text_100 : decode cX9_text 100 = .ok (.bipush 89, 2) := dgX9_text_3.2.2.2.2.2.2.2.2.2.2.1
theorem dX9_text_102 : decode cX9_text 102 = .ok (.iconst 2, 1) := dgX9_text_3.2.2.2.2.2.2.2.2.2.2.2.1
theorem dX9_text_103 : decode cX9_text 103 = .ok (.iload_n 2, 1) := dgX9_text_3.2.2.2.2.2.2.2.2.2.2.2.2.1
theorem dX9_text_104 : decode cX9_text 104 = .ok (.imul, 1) := dgX9_text_3.2.2.2.2.2.2.2.2.2.2.2.2.2.1
theorem dX9_text_105 : decode cX9_text 105 = .ok (.iadd, 1) := dgX9_text_3.2.2.2.2.2.2.2.2.2.2.2.2.2.2.1
theorem dX9_text_106 : decode cX9_text 106 = .ok (.iconst 1, 1) := dgX9_text_3.2.2.2.2.2.2.2.2.2.2.2.2.2.2.2
theorem dgX9_text_4 : decode cX9_text 107 = .ok (.iadd, 1) ∧ decode cX9_text 108 = .ok (.aload_n 0, 1) ∧ decode cX9_text 109 = .ok (.getfield 256, 3) ∧ decode cX9_text 112 = .ok (.iastore, 1) ∧ decode cX9_text 113 = .ok (.iconst 0, 1) ∧ decode cX9_text 114 = .ok (.istore_n 3, 1) ∧ decode cX9_text 115 = .ok (.iload_n 3, 1) ∧ decode cX9_text 116 = .ok (.aload_n 0, 1) ∧ decode cX9_text 117 = .ok (.getfield 250, 3) ∧ decode cX9_text 120 = .ok (.if_icmp .ge 29, 3) ∧ decode cX9_text 123 = .ok (.aload_n 0, 1) ∧ decode cX9_text 124 = .ok (.getfield 9, 3) ∧ decode cX9_text 127 = .ok (.bipush 117, 2) ∧ decode cX9_text 129 = .ok (.bipush 96, 2) ∧ decode cX9_text 131 = .ok (.iload_n 2, 1) ∧ decode cX9_text 132 = .ok (.imul, 1) := by decide +kernel
theorem dX9_text_107 : decode cX9_text 107 = .ok (.iadd, 1) := dgX9_text_4.1
theorem dX9_text_108 : decode cX9_text 108 = .ok (.aload_n 0, 1) := dgX9_text_4.2.1
theorem dX9_text_109 : decode cX9_text 109 = .ok (.getfield 256, 3) := dgX9_text_4.2.2.1
theorem dX9_text_112 : decode cX9_text 112 = .ok (.iastore, 1) := dgX9_text_4.2.2.2.1
theorem dX9_text_113 : decode cX9_text 113 = .ok (.iconst 0, 1) := dgX9_text_4.2.2.2.2.1
theorem dX9_text_114 : decode cX9_text 114 = .ok (.istore_n 3, 1) := dgX9_text_4.2.2.2.2.2.1
theorem dX9_text_115 : decode cX9_text 115 = .ok (.iload_n 3, 1) := dgX9_text_4.2.2.2.2.2.2.1
theorem dX9_text_116 : decode cX9_text 116 = .ok (.aload_n 0, 1) := dgX9_text_4.2.2.2.2.2.2.2.1
theorem dX9_text_117 : decode cX9_text 117 = .ok (.getfield 250, 3) := dgX9_text_4.2.2.2.2.2.2.2.2.1
theorem dX9_text_120 : decode cX9_text 120 = .ok (.if_icmp .ge 29, 3) := dgX9_text_4.2.2.2.2.2.2.2.2.2.1
theorem dX9_text_123 : decode cX9_text 123 = .ok (.aload_n 0, 1) := dgX9_text_4.2.2.2.2.2.2.2.2.2.2.1
theorem dX9_text_124 : decode cX9_text 124 = .ok (.getfield 9, 3) := dgX9_text_4.2.2.2.2.2.2.2.2.2.2.2.1
theorem dX9_text_127 : decode cX9_text 127 = .ok (.bipush 117, 2) := dgX9_text_4.2.2.2.2.2.2.2.2.2.2.2.2.1
theorem dX9_text_129 : decode cX9_text 129 = .ok (.bipush 96, 2) := dgX9_text_4.2.2.2.2.2.2.2.2.2.2.2.2.2.1
theorem dX9_text_131 : decode cX9_text 131 = .ok (.iload_n 2, 1) := dgX9_text_4.2.2.2.2.2.2.2.2.2.2.2.2.2.2.1
theorem dX9_text_132 : decode cX9_text 132 = .ok (.imul, 1) := dgX9_text_4.2.2.2.2.2.2.2.2.2.2.2.2.2.2.2
theorem dgX9_text_5 : decode cX9_text 133 = .ok (.iadd, 1) ∧ decode cX9_text 134 = .ok (.iload_n 3, 1) ∧ decode cX9_text 135 = .ok (.iadd, 1) ∧ decode cX9_text 136 = .ok (.aload_n 0, 1) ∧ decode cX9_text 137 = .ok (.getfield 42, 3) ∧ decode cX9_text 140 = .ok (.iload_n 3, 1) ∧ decode cX9_text 141 = .ok (.iaload, 1) ∧ decode cX9_text 142 = .ok (.iastore, 1) ∧ decode cX9_text 143 = .ok (.iinc 3 1, 3) ∧ decode cX9_text 146 = .ok (.goto (-31), 3) ∧ decode cX9_text 149 = .ok (.aload_n 0, 1) ∧ decode cX9_text 150 = .ok (.getfield 9, 3) ∧ decode cX9_text 153 = .ok (.iconst 4, 1) ∧ decode cX9_text 154 = .ok (.dup2, 1) ∧ decode cX9_text 155 = .ok (.iaload, 1) ∧ decode cX9_text 156 = .ok (.iconst 1, 1) := by decide +kernel
theorem dX9_text_133 : decode cX9_text 133 = .ok (.iadd, 1) := dgX9_text_5.1
theorem dX9_text_134 : decode cX9_text 134 = .ok (.iload_n 3, 1) := dgX9_text_5.2.1
theorem dX9_text_135 : decode cX9_text 135 = .ok (.iadd, 1) := dgX9_text_5.2.2.1
theorem dX9_text_136 : decode cX9_text 136 = .ok (.aload_n 0, 1) := dgX9_text_5.2.2.2.1
theorem dX9_text_137 : decode cX9_text 137 = .ok (.getfield 42, 3) := dgX9_text_5.2.2.2.2.1
theorem dX9_text_140 : decode cX9_text 140 = .ok (.iload_n 3, 1) := dgX9_text_5.2.2.2.2.2.1
theorem dX9_text_141 : decode cX9_text 141 = .ok (.iaload, 1) := dgX9_text_5.2.2.2.2.2.2.1
theorem dX9_text_142 : decode cX9_text 142 = .ok (.iastore, 1) := dgX9_text_5.2.2.2.2.2.2.2.1
theorem dX9_text_143 : decode cX9_text 143 = .ok (.iinc 3 1, 3) := dgX9_text_5.2.2.2.2.2.2.2.2.1
theorem dX9_text_146 : decode cX9_text 146 = .ok (.goto (-31), 3) := dgX9_text_5.2.2.2.2.2.2.2.2.2.1
theorem dX9_text_149 : decode cX9_text 149 = .ok (.aload_n 0, 1) := dgX9_text_5.2.2.2.2.2.2.2.2.2.2.1
theorem dX9_text_150 : decode cX9_text 150 = .ok (.getfield 9, 3) := dgX9_text_5.2.2.2.2.2.2.2.2.2.2.2.1
theorem dX9_text_153 : decode cX9_text 153 = .ok (.iconst 4, 1) := dgX9_text_5.2.2.2.2.2.2.2.2.2.2.2.2.1
theorem dX9_text_154 : decode cX9_text 154 = .ok (.dup2, 1) := dgX9_text_5.2.2.2.2.2.2.2.2.2.2.2.2.2.1
theorem dX9_text_155 : decode cX9_text 155 = .ok (.iaload, 1) := dgX9_text_5.2.2.2.2.2.2.2.2.2.2.2.2.2.2.1
theorem dX9_text_156 : decode cX9_text 156 = .ok (.iconst 1, 1) := dgX9_text_5.2.2.2.2.2.2.2.2.2.2.2.2.2.2.2
theorem dgX9_text_6 : decode cX9_text 157 = .ok (.iadd, 1) ∧ decode cX9_text 158 = .ok (.iastore, 1) ∧ decode cX9_text 159 = .ok (.iload_n 2, 1) ∧ decode cX9_text 160 = .ok (.ireturn, 1) := by decide +kernel
theorem dX9_text_157 : decode cX9_text 157 = .ok (.iadd, 1) := dgX9_text_6.1
theorem dX9_text_158 : decode cX9_text 158 = .ok (.iastore, 1) := dgX9_text_6.2.1
theorem dX9_text_159 : decode cX9_text 159 = .ok (.iload_n 2, 1) := dgX9_text_6.2.2.1
theorem dX9_text_160 : decode cX9_text 160 = .ok (.ireturn, 1) := dgX9_text_6.2.2.2
abbrev pX9_text : List Nat := [0, 32, 33, 51, 65, 115, 149]
def bX9_text_0 (cal : ab_F) : ab_K := o_aload 0 <| o_push (.int 0) <| o_putI 8 10 <| o_aload 0 <| o_push (.int (-1)) <| o_putI 8 14 <| o_aload 0 <| o_callV cal 191 0 8 <| o_aload 0 <| o_callV cal 192 0 8 <| o_if (fun x => decide (x = 0)) 1 <| o_aload 0 <| o_callV cal 198 0 8 <| o_if (fun x => decide (x = 0)) 1 <| o_push (.int 1) <| o_goto 2
def bX9_text_1 (cal : ab_F) : ab_K := o_push (.int 0) <| o_goto 2
def bX9_text_2 (cal : ab_F) : ab_K := o_istore 1 <| o_aload 0 <| o_push (.int 0) <| o_putI 8 9 <| o_iload 1 <| o_if (fun x => decide (¬ x = 0)) 3 <| o_push (.int (-100)) <| o_aload 0 <| o_getf 8 11 <| o_bin (fun x y => x - y) <| o_ret (some .int)
def bX9_text_3 (cal : ab_F) : ab_K := o_aload 0 <| o_getf 8 0 <| o_push (.int 4) <| o_iald 0 <| o_push (.int 14) <| o_cmp (fun x y => decide (¬ x = y)) 4 <| o_push (.int (-1000000003)) <| o_ret (some .int)
def bX9_text_4 (cal : ab_F) : ab_K := o_aload 0 <| o_getf 8 0 <| o_push (.int 4) <| o_iald 0 <| o_istore 2 <| o_aload 0 <| o_getf 8 0 <| o_push (.int 89) <| o_push (.int 2) <| o_iload 2 <| o_bin (fun x y => x * y) <| o_bin (fun x y => x + y) <| o_push (.int 1000) <| o_aload 0 <| o_getf 8 15 <| o_bin (fun x y => x * y) <| o_aload 0 <| o_getf 8 19 <| o_bin (fun x y => x + y) <| o_iast 0 (fun x => x) <| o_aload 0 <| o_getf 8 0 <| o_push (.int 89) <| o_push (.int 2) <| o_iload 2 <| o_bin (fun x y => x * y) <| o_bin (fun x y => x + y) <| o_push (.int 1) <| o_bin (fun x y => x + y) <| o_aload 0 <| o_getf 8 20 <| o_iast 0 (fun x => x) <| o_push (.int 0) <| o_istore 3 <| o_goto 5
def bX9_text_5 (cal : ab_F) : ab_K := o_iload 3 <| o_aload 0 <| o_getf 8 19 <| o_cmp (fun x y => decide (y ≤ x)) 6 <| o_aload 0 <| o_getf 8 0 <| o_push (.int 117) <| o_push (.int 96) <| o_iload 2 <| o_bin (fun x y => x * y) <| o_bin (fun x y => x + y) <| o_iload 3 <| o_bin (fun x y => x + y) <| o_aload 0 <| o_getf 8 18 <| o_iload 3 <| o_iald 0 <| o_iast 0 (fun x => x) <| o_iinc 3 1 <| o_goto 5
def bX9_text_6 (cal : ab_F) : ab_K := o_aload 0 <| o_getf 8 0 <| o_push (.int 4) <| o_dup2 <| o_iald 0 <| o_push (.int 1) <| o_bin (fun x y => x + y) <| o_iast 0 (fun x => x) <| o_iload 2 <| o_ret (some .int)
def bX9_text (cal : ab_F) : List ab_K := [bX9_text_0 cal, bX9_text_1 cal, bX9_text_2 cal, bX9_text_3 cal, bX9_text_4 cal, bX9_text_5 cal, bX9_text_6 cal]
set_option maxRecDepth 100000 in
theorem sX9_text_0 {G : ab_G} {xs : List Int32} {d : Nat} {cal : ab_F} (hcs : ab_CS G (ab_Z G xs) ab_Mf cal d) : ab_Sd G (ab_Z G xs) (d + 1) (ab_mY mX9_text pX9_text) 0 (bX9_text_0 cal) :=
  sn_aload_n dX9_text_0 rfl <| sn_iconst dX9_text_1 rfl <| sn_putI tyX9 tyX9_ok nmX9 dX9_text_2 rfl hinX9 (by decide) w_1001 (Or.inl rfl) (tyX9_ok 10 (by decide)) <| sn_aload_n dX9_text_5 rfl <| sn_iconst dX9_text_6 rfl <| sn_putI tyX9 tyX9_ok nmX9 dX9_text_7 rfl hinX9 (by decide) w_1005 (Or.inl rfl) (tyX9_ok 14 (by decide)) <| sn_aload_n dX9_text_10 rfl <| sq_callV mt_191 hcs dX9_text_11 rfl w_1361 w_1363 w_44 w_63 w_1364 hy_191 hm_191 <| sn_aload_n dX9_text_14 rfl <| sq_callV mt_192 hcs dX9_text_15 rfl w_1373 w_1375 w_47 w_63 w_1376 hy_192 hm_192 <| sn_if_eq (tg := 32) dX9_text_18 rfl rfl <| sn_aload_n dX9_text_21 rfl <| sq_callV mt_198 hcs dX9_text_22 rfl w_1377 w_1379 w_48 w_63 w_1380 hy_198 hm_198 <| sn_if_eq (tg := 32) dX9_text_25 rfl rfl <| sn_iconst dX9_text_28 rfl <| sn_goto (tg := 33) dX9_text_29 rfl rfl
set_option maxRecDepth 100000 in
theorem sX9_text_1 {G : ab_G} {xs : List Int32} {d : Nat} {cal : ab_F} (hcs : ab_CS G (ab_Z G xs) ab_Mf cal d) : ab_Sd G (ab_Z G xs) (d + 1) (ab_mY mX9_text pX9_text) 32 (bX9_text_1 cal) :=
  sn_iconst dX9_text_32 rfl <| sn_next rfl
set_option maxRecDepth 100000 in
theorem sX9_text_2 {G : ab_G} {xs : List Int32} {d : Nat} {cal : ab_F} (hcs : ab_CS G (ab_Z G xs) ab_Mf cal d) : ab_Sd G (ab_Z G xs) (d + 1) (ab_mY mX9_text pX9_text) 33 (bX9_text_2 cal) :=
  sn_istore_n dX9_text_33 rfl (by decide) <| sn_aload_n dX9_text_34 rfl <| sn_iconst dX9_text_35 rfl <| sn_putI tyX9 tyX9_ok nmX9 dX9_text_36 rfl hinX9 (by decide) w_1000 (Or.inl rfl) (tyX9_ok 9 (by decide)) <| sn_iload_n dX9_text_39 rfl <| sn_if_ne (tg := 51) dX9_text_40 rfl rfl <| sn_bipush dX9_text_43 rfl <| sn_aload_n dX9_text_45 rfl <| sn_getf dX9_text_46 rfl hinX9 (by decide) w_1002 <| sn_isub dX9_text_49 <| sn_ret dX9_text_50 ab_ri_int
set_option maxRecDepth 100000 in
theorem sX9_text_3 {G : ab_G} {xs : List Int32} {d : Nat} {cal : ab_F} (hcs : ab_CS G (ab_Z G xs) ab_Mf cal d) : ab_Sd G (ab_Z G xs) (d + 1) (ab_mY mX9_text pX9_text) 51 (bX9_text_3 cal) :=
  sn_aload_n dX9_text_51 rfl <| sn_getf dX9_text_52 rfl hinX9 (by decide) w_991 <| sn_iconst dX9_text_55 rfl <| sn_iald dX9_text_56 rfl <| sn_bipush dX9_text_57 rfl <| sn_cmp_ne (tg := 65) dX9_text_59 rfl rfl <| sn_ldc dX9_text_62 w_1110 <| sn_ret dX9_text_64 ab_ri_int
set_option maxRecDepth 100000 in
theorem sX9_text_4 {G : ab_G} {xs : List Int32} {d : Nat} {cal : ab_F} (hcs : ab_CS G (ab_Z G xs) ab_Mf cal d) : ab_Sd G (ab_Z G xs) (d + 1) (ab_mY mX9_text pX9_text) 65 (bX9_text_4 cal) :=
  sn_aload_n dX9_text_65 rfl <| sn_getf dX9_text_66 rfl hinX9 (by decide) w_991 <| sn_iconst dX9_text_69 rfl <| sn_iald dX9_text_70 rfl <| sn_istore_n dX9_text_71 rfl (by decide) <| sn_aload_n dX9_text_72 rfl <| sn_getf dX9_text_73 rfl hinX9 (by decide) w_991 <| sn_bipush dX9_text_76 rfl <| sn_iconst dX9_text_78 rfl <| sn_iload_n dX9_text_79 rfl <| sn_imul dX9_text_80 <| sn_iadd dX9_text_81 <| sn_sipush dX9_text_82 rfl <| sn_aload_n dX9_text_85 rfl <| sn_getf dX9_text_86 rfl hinX9 (by decide) w_1006 <| sn_imul dX9_text_89 <| sn_aload_n dX9_text_90 rfl <| sn_getf dX9_text_91 rfl hinX9 (by decide) w_1010 <| sn_iadd dX9_text_94 <| sn_iast dX9_text_95 rfl rfl <| sn_aload_n dX9_text_96 rfl <| sn_getf dX9_text_97 rfl hinX9 (by decide) w_991 <| sn_bipush dX9_text_100 rfl <| sn_iconst dX9_text_102 rfl <| sn_iload_n dX9_text_103 rfl <| sn_imul dX9_text_104 <| sn_iadd dX9_text_105 <| sn_iconst dX9_text_106 rfl <| sn_iadd dX9_text_107 <| sn_aload_n dX9_text_108 rfl <| sn_getf dX9_text_109 rfl hinX9 (by decide) w_1011 <| sn_iast dX9_text_112 rfl rfl <| sn_iconst dX9_text_113 rfl <| sn_istore_n dX9_text_114 rfl (by decide) <| sn_next rfl
set_option maxRecDepth 100000 in
theorem sX9_text_5 {G : ab_G} {xs : List Int32} {d : Nat} {cal : ab_F} (hcs : ab_CS G (ab_Z G xs) ab_Mf cal d) : ab_Sd G (ab_Z G xs) (d + 1) (ab_mY mX9_text pX9_text) 115 (bX9_text_5 cal) :=
  sn_iload_n dX9_text_115 rfl <| sn_aload_n dX9_text_116 rfl <| sn_getf dX9_text_117 rfl hinX9 (by decide) w_1010 <| sn_cmp_ge (tg := 149) dX9_text_120 rfl rfl <| sn_aload_n dX9_text_123 rfl <| sn_getf dX9_text_124 rfl hinX9 (by decide) w_991 <| sn_bipush dX9_text_127 rfl <| sn_bipush dX9_text_129 rfl <| sn_iload_n dX9_text_131 rfl <| sn_imul dX9_text_132 <| sn_iadd dX9_text_133 <| sn_iload_n dX9_text_134 rfl <| sn_iadd dX9_text_135 <| sn_aload_n dX9_text_136 rfl <| sn_getf dX9_text_137 rfl hinX9 (by decide) w_1009 <| sn_iload_n dX9_text_140 rfl <| sn_iald dX9_text_141 rfl <| sn_iast dX9_text_142 rfl rfl <| sn_iinc dX9_text_143 rfl (by decide) <| sn_goto (tg := 115) dX9_text_146 rfl rfl
set_option maxRecDepth 100000 in
theorem sX9_text_6 {G : ab_G} {xs : List Int32} {d : Nat} {cal : ab_F} (hcs : ab_CS G (ab_Z G xs) ab_Mf cal d) : ab_Sd G (ab_Z G xs) (d + 1) (ab_mY mX9_text pX9_text) 149 (bX9_text_6 cal) :=
  sn_aload_n dX9_text_149 rfl <| sn_getf dX9_text_150 rfl hinX9 (by decide) w_991 <| sn_iconst dX9_text_153 rfl <| sn_dup2 dX9_text_154 <| sn_iald dX9_text_155 rfl <| sn_iconst dX9_text_156 rfl <| sn_iadd dX9_text_157 <| sn_iast dX9_text_158 rfl rfl <| sn_iload_n dX9_text_159 rfl <| sn_ret dX9_text_160 ab_ri_int
theorem sX9_text {G : ab_G} {xs : List Int32} {d : Nat} {cal : ab_F} (hcs : ab_CS G (ab_Z G xs) ab_Mf cal d) : ab_BS G (ab_Z G xs) (d + 1) (ab_mY mX9_text pX9_text) pX9_text (bX9_text cal) := ⟨sX9_text_0 hcs, sX9_text_1 hcs, sX9_text_2 hcs, sX9_text_3 hcs, sX9_text_4 hcs, sX9_text_5 hcs, sX9_text_6 hcs, trivial⟩
