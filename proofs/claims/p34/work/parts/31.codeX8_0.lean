theorem dgX8_init_0 : decode cX8_init 0 = .ok (.aload_n 0, 1) ∧ decode cX8_init 1 = .ok (.invokespecial 1, 3) ∧ decode cX8_init 4 = .ok (.aload_n 0, 1) ∧ decode cX8_init 5 = .ok (.new 7, 3) ∧ decode cX8_init 8 = .ok (.dup, 1) ∧ decode cX8_init 9 = .ok (.invokespecial 9, 3) ∧ decode cX8_init 12 = .ok (.putfield 10, 3) ∧ decode cX8_init 15 = .ok (.aload_n 0, 1) ∧ decode cX8_init 16 = .ok (.new 7, 3) ∧ decode cX8_init 19 = .ok (.dup, 1) ∧ decode cX8_init 20 = .ok (.invokespecial 9, 3) ∧ decode cX8_init 23 = .ok (.putfield 16, 3) ∧ decode cX8_init 26 = .ok (.aload_n 0, 1) ∧ decode cX8_init 27 = .ok (.new 19, 3) ∧ decode cX8_init 30 = .ok (.dup, 1) ∧ decode cX8_init 31 = .ok (.invokespecial 21, 3) := by decide +kernel
theorem dX8_init_0 : decode cX8_init 0 = .ok (.aload_n 0, 1) := dgX8_init_0.1
theorem dX8_init_1 : decode cX8_init 1 = .ok (.invokespecial 1, 3) := dgX8_init_0.2.1
theorem dX8_init_4 : decode cX8_init 4 = .ok (.aload_n 0, 1) := dgX8_init_0.2.2.1
theorem dX8_init_5 : decode cX8_init 5 = .ok (.new 7, 3) := dgX8_init_0.2.2.2.1
theorem dX8_init_8 : decode cX8_init 8 = .ok (.dup, 1) := dgX8_init_0.2.2.2.2.1
theorem dX8_init_9 : decode cX8_init 9 = .ok (.invokespecial 9, 3) := dgX8_init_0.2.2.2.2.2.1
theorem dX8_init_12 : decode cX8_init 12 = .ok (.putfield 10, 3) := dgX8_init_0.2.2.2.2.2.2.1
theorem dX8_init_15 : decode cX8_init 15 = .ok (.aload_n 0, 1) := dgX8_init_0.2.2.2.2.2.2.2.1
theorem dX8_init_16 : decode cX8_init 16 = .ok (.new 7, 3) := dgX8_init_0.2.2.2.2.2.2.2.2.1
theorem dX8_init_19 : decode cX8_init 19 = .ok (.dup, 1) := dgX8_init_0.2.2.2.2.2.2.2.2.2.1
theorem dX8_init_20 : decode cX8_init 20 = .ok (.invokespecial 9, 3) := dgX8_init_0.2.2.2.2.2.2.2.2.2.2.1
theorem dX8_init_23 : decode cX8_init 23 = .ok (.putfield 16, 3) := dgX8_init_0.2.2.2.2.2.2.2.2.2.2.2.1
theorem dX8_init_26 : decode cX8_init 26 = .ok (.aload_n 0, 1) := dgX8_init_0.2.2.2.2.2.2.2.2.2.2.2.2.1
theorem dX8_init_27 : decode cX8_init 27 = .ok (.new 19, 3) := dgX8_init_0.2.2.2.2.2.2.2.2.2.2.2.2.2.1
theorem dX8_init_30 : decode cX8_init 30 = .ok (.dup, 1) := dgX8_init_0.2.2.2.2.2.2.2.2.2.2.2.2.2.2.1
theorem dX8_init_31 : decode cX8_init 31 = .ok (.invokespecial 21, 3) := dgX8_init_0.2.2.2.2.2.2.2.2.2.2.2.2.2.2.2
theorem dgX8_init_1 : decode cX8_init 34 = .ok (.putfield 22, 3) ∧ decode cX8_init 37 = .ok (.aload_n 0, 1) ∧ decode cX8_init 38 = .ok (.new 26, 3) ∧ decode cX8_init 41 = .ok (.dup, 1) ∧ decode cX8_init 42 = .ok (.invokespecial 28, 3) ∧ decode cX8_init 45 = .ok (.putfield 29, 3) ∧ decode cX8_init 48 = .ok (.aload_n 0, 1) ∧ decode cX8_init 49 = .ok (.new 33, 3) ∧ decode cX8_init 52 = .ok (.dup, 1) ∧ decode cX8_init 53 = .ok (.aload_n 0, 1) ∧ decode cX8_init 54 = .ok (.getfield 29, 3) ∧ decode cX8_init 57 = .ok (.invokespecial 35, 3) ∧ decode cX8_init 60 = .ok (.putfield 38, 3) ∧ decode cX8_init 63 = .ok (.aload_n 0, 1) ∧ decode cX8_init 64 = .ok (.iconst 4, 1) ∧ decode cX8_init 65 = .ok (.anewarray 42, 3) := by decide +kernel
theorem dX8_init_34 : decode cX8_init 34 = .ok (.putfield 22, 3) := dgX8_init_1.1
theorem dX8_init_37 : decode cX8_init 37 = .ok (.aload_n 0, 1) := dgX8_init_1.2.1
theorem dX8_init_38 : decode cX8_init 38 = .ok (.new 26, 3) := dgX8_init_1.2.2.1
theorem dX8_init_41 : decode cX8_init 41 = .ok (.dup, 1) := dgX8_init_1.2.2.2.1
theorem dX8_init_42 : decode cX8_init 42 = .ok (.invokespecial 28, 3) := dgX8_init_1.2.2.2.2.1
theorem dX8_init_45 : decode cX8_init 45 = .ok (.putfield 29, 3) := dgX8_init_1.2.2.2.2.2.1
theorem dX8_init_48 : decode cX8_init 48 = .ok (.aload_n 0, 1) := dgX8_init_1.2.2.2.2.2.2.1
theorem dX8_init_49 : decode cX8_init 49 = .ok (.new 33, 3) := dgX8_init_1.2.2.2.2.2.2.2.1
theorem dX8_init_52 : decode cX8_init 52 = .ok (.dup, 1) := dgX8_init_1.2.2.2.2.2.2.2.2.1
theorem dX8_init_53 : decode cX8_init 53 = .ok (.aload_n 0, 1) := dgX8_init_1.2.2.2.2.2.2.2.2.2.1
theorem dX8_init_54 : decode cX8_init 54 = .ok (.getfield 29, 3) := dgX8_init_1.2.2.2.2.2.2.2.2.2.2.1
theorem dX8_init_57 : decode cX8_init 57 = .ok (.invokespecial 35, 3) := dgX8_init_1.2.2.2.2.2.2.2.2.2.2.2.1
theorem dX8_init_60 : decode cX8_init 60 = .ok (.putfield 38, 3) := dgX8_init_1.2.2.2.2.2.2.2.2.2.2.2.2.1
theorem dX8_init_63 : decode cX8_init 63 = .ok (.aload_n 0, 1) := dgX8_init_1.2.2.2.2.2.2.2.2.2.2.2.2.2.1
theorem dX8_init_64 : decode cX8_init 64 = .ok (.iconst 4, 1) := dgX8_init_1.2.2.2.2.2.2.2.2.2.2.2.2.2.2.1
theorem dX8_init_65 : decode cX8_init 65 = .ok (.anewarray 42, 3) := dgX8_init_1.2.2.2.2.2.2.2.2.2.2.2.2.2.2.2
theorem dgX8_init_2 : decode cX8_init 68 = .ok (.putfield 44, 3) ∧ decode cX8_init 71 = .ok (.aload_n 0, 1) ∧ decode cX8_init 72 = .ok (.iconst 5, 1) ∧ decode cX8_init 73 = .ok (.anewarray 48, 3) ∧ decode cX8_init 76 = .ok (.putfield 50, 3) ∧ decode cX8_init 79 = .ok (.aload_n 0, 1) ∧ decode cX8_init 80 = .ok (.bipush 60, 2) ∧ decode cX8_init 82 = .ok (.newarray .int, 2) ∧ decode cX8_init 84 = .ok (.putfield 54, 3) ∧ decode cX8_init 87 = .ok (.iconst 0, 1) ∧ decode cX8_init 88 = .ok (.istore_n 1, 1) ∧ decode cX8_init 89 = .ok (.iload_n 1, 1) ∧ decode cX8_init 90 = .ok (.iconst 4, 1) ∧ decode cX8_init 91 = .ok (.if_icmp .ge 22, 3) ∧ decode cX8_init 94 = .ok (.aload_n 0, 1) ∧ decode cX8_init 95 = .ok (.getfield 44, 3) := by decide +kernel
theorem dX8_init_68 : decode cX8_init 68 = .ok (.putfield 44, 3) := dgX8_init_2.1
theorem dX8_init_71 : decode cX8_init 71 = .ok (.aload_n 0, 1) := dgX8_init_2.2.1
theorem dX8_init_72 : decode cX8_init 72 = .ok (.iconst 5, 1) := dgX8_init_2.2.2.1
theorem dX8_init_73 : decode cX8_init 73 = .ok (.anewarray 48, 3) := dgX8_init_2.2.2.2.1
theorem dX8_init_76 : decode cX8_init 76 = .ok (.putfield 50, 3) := dgX8_init_2.2.2.2.2.1
theorem dX8_init_79 : decode cX8_init 79 = .ok (.aload_n 0, 1) := dgX8_init_2.2.2.2.2.2.1
theorem dX8_init_80 : decode cX8_init 80 = .ok (.bipush 60, 2) := dgX8_init_2.2.2.2.2.2.2.1
theorem dX8_init_82 : decode cX8_init 82 = .ok (.newarray .int, 2) := dgX8_init_2.2.2.2.2.2.2.2.1
theorem dX8_init_84 : decode cX8_init 84 = .ok (.putfield 54, 3) := dgX8_init_2.2.2.2.2.2.2.2.2.1
theorem dX8_init_87 : decode cX8_init 87 = .ok (.iconst 0, 1) := dgX8_init_2.2.2.2.2.2.2.2.2.2.1
theorem dX8_init_88 : decode cX8_init 88 = .ok (.istore_n 1, 1) := dgX8_init_2.2.2.2.2.2.2.2.2.2.2.1
theorem dX8_init_89 : decode cX8_init 89 = .ok (.iload_n 1, 1) := dgX8_init_2.2.2.2.2.2.2.2.2.2.2.2.1
theorem dX8_init_90 : decode cX8_init 90 = .ok (.iconst 4, 1) := dgX8_init_2.2.2.2.2.2.2.2.2.2.2.2.2.1
theorem dX8_init_91 : decode cX8_init 91 = .ok (.if_icmp .ge 22, 3) := dgX8_init_2.2.2.2.2.2.2.2.2.2.2.2.2.2.1
theorem dX8_init_94 : decode cX8_init 94 = .ok (.aload_n 0, 1) := dgX8_init_2.2.2.2.2.2.2.2.2.2.2.2.2.2.2.1
theorem dX8_init_95 : decode cX8_init 95 = .ok (.getfield 44, 3) := dgX8_init_2.2.2.2.2.2.2.2.2.2.2.2.2.2.2.2
theorem dgX8_init_3 : decode cX8_init 98 = .ok (.iload_n 1, 1) ∧ decode cX8_init 99 = .ok (.new 42, 3) ∧ decode cX8_init 102 = .ok (.dup, 1) ∧ decode cX8_init 103 = .ok (.invokespecial 58, 3) ∧ decode cX8_init 106 = .ok (.aastore, 1) ∧ decode cX8_init 107 = .ok (.iinc 1 1, 3) ∧ decode cX8_init 110 = .ok (.goto (-21), 3) ∧ decode cX8_init 113 = .ok (.iconst 0, 1) ∧ decode cX8_init 114 = .ok (.istore_n 1, 1) ∧ decode cX8_init 115 = .ok (.iload_n 1, 1) ∧ decode cX8_init 116 = .ok (.iconst 5, 1) ∧ decode cX8_init 117 = .ok (.if_icmp .ge 22, 3) ∧ decode cX8_init 120 = .ok (.aload_n 0, 1) ∧ decode cX8_init 121 = .ok (.getfield 50, 3) ∧ decode cX8_init 124 = .ok (.iload_n 1, 1) ∧ decode cX8_init 125 = .ok (.new 48, 3) := by decide +kernel
theorem dX8_init_98 : decode cX8_init 98 = .ok (.iload_n 1, 1) := dgX8_init_3.1
theorem dX8_init_99 : decode cX8_init 99 = .ok (.new 42, 3) := dgX8_init_3.2.1
theorem dX8_init_102 : decode cX8_init 102 = .ok (.dup, 1) := dgX8_init_3.2.2.1
theorem dX8_init_103 : decode cX8_init 103 = .ok (.invokespecial 58, 3) := dgX8_init_3.2.2.2.1
theorem dX8_init_106 : decode cX8_init 106 = .ok (.aastore, 1) := dgX8_init_3.2.2.2.2.1
theorem dX8_init_107 : decode cX8_init 107 = .ok (.iinc 1 1, 3) := dgX8_init_3.2.2.2.2.2.1
theorem dX8_init_110 : decode cX8_init 110 = .ok (.goto (-21), 3) := dgX8_init_3.2.2.2.2.2.2.1
theorem dX8_init_113 : decode cX8_init 113 = .ok (.iconst 0, 1) := dgX8_init_3.2.2.2.2.2.2.2.1
theorem dX8_init_114 : decode cX8_init 114 = .ok (.istore_n 1, 1) := dgX8_init_3.2.2.2.2.2.2.2.2.1
theorem dX8_init_115 : decode cX8_init 115 = .ok (.iload_n 1, 1) := dgX8_init_3.2.2.2.2.2.2.2.2.2.1
theorem dX8_init_116 : decode cX8_init 116 = .ok (.iconst 5, 1) := dgX8_init_3.2.2.2.2.2.2.2.2.2.2.1
theorem dX8_init_117 : decode cX8_init 117 = .ok (.if_icmp .ge 22, 3) := dgX8_init_3.2.2.2.2.2.2.2.2.2.2.2.1
theorem dX8_init_120 : decode cX8_init 120 = .ok (.aload_n 0, 1) := dgX8_init_3.2.2.2.2.2.2.2.2.2.2.2.2.1
theorem dX8_init_121 : decode cX8_init 121 = .ok (.getfield 50, 3) := dgX8_init_3.2.2.2.2.2.2.2.2.2.2.2.2.2.1
theorem dX8_init_124 : decode cX8_init 124 = .ok (.iload_n 1, 1) := dgX8_init_3.2.2.2.2.2.2.2.2.2.2.2.2.2.2.1
theorem dX8_init_125 : decode cX8_init 125 = .ok (.new 48, 3) := dgX8_init_3.2.2.2.2.2.2.2.2.2.2.2.2.2.2.2
theorem dgX8_init_4 : decode cX8_init 128 = .ok (.dup, 1) ∧ decode cX8_init 129 = .ok (.invokespecial 59, 3) ∧ decode cX8_init 132 = .ok (.aastore, 1) ∧ decode cX8_init 133 = .ok (.iinc 1 1, 3) ∧ decode cX8_init 136 = .ok (.goto (-21), 3) ∧ decode cX8_init 139 = .ok (.return_, 1) := by decide +kernel
theorem dX8_init_128 : decode cX8_init 128 = .ok (.dup, 1) := dgX8_init_4.1
theorem dX8_init_129 : decode cX8_init 129 = .ok (.invokespecial 59, 3) := dgX8_init_4.2.1
theorem dX8_init_132 : decode cX8_init 132 = .ok (.aastore, 1) := dgX8_init_4.2.2.1
theorem dX8_init_133 : decode cX8_init 133 = .ok (.iinc 1 1, 3) := dgX8_init_4.2.2.2.1
theorem dX8_init_136 : decode cX8_init 136 = .ok (.goto (-21), 3) := dgX8_init_4.2.2.2.2.1
theorem dX8_init_139 : decode cX8_init 139 = .ok (.return_, 1) := dgX8_init_4.2.2.2.2.2
abbrev pX8_init : List Nat := [0, 89, 113, 115, 139]
def bX8_init_0 (cal : ab_F) : ab_K := o_aload 0 <| o_oinit <| o_aload 0 <| o_new 3 [.null, .null, .null, .null, .null, .null, .null, .null, .null, .null, .int 0, .int 0, .int 0, .int 0, .int 0] <| o_dup <| o_callI cal 29 0 <| o_putA 7 0 <| o_aload 0 <| o_new 3 [.null, .null, .null, .null, .null, .null, .null, .null, .null, .null, .int 0, .int 0, .int 0, .int 0, .int 0] <| o_dup <| o_callI cal 29 0 <| o_putA 7 1 <| o_aload 0 <| o_new 6 [.null, .null, .null] <| o_dup <| o_callI cal 67 0 <| o_putA 7 2 <| o_aload 0 <| o_new 4 [.null, .int 0] <| o_dup <| o_callI cal 60 0 <| o_putA 7 3 <| o_aload 0 <| o_new 0 [.int 0, .null, .null, .null, .int 0, .int 0, .null, .int 0, .int 0, .int 0, .int 0] <| o_dup <| o_aload 0 <| o_getf 7 3 <| o_callI cal 4 1 <| o_putA 7 4 <| o_aload 0 <| o_push (.int 4) <| o_newa 3 <| o_putA 7 5 <| o_aload 0 <| o_push (.int 5) <| o_newa 4 <| o_putA 7 6 <| o_aload 0 <| o_push (.int 60) <| o_newi 0 <| o_putA 7 7 <| o_push (.int 0) <| o_istore 1 <| o_goto 1
def bX8_init_1 (cal : ab_F) : ab_K := o_iload 1 <| o_push (.int 4) <| o_cmp (fun x y => decide (y ≤ x)) 2 <| o_aload 0 <| o_getf 7 5 <| o_iload 1 <| o_new 1 [.null, .int 0, .int 0] <| o_dup <| o_callI cal 20 0 <| o_aast 3 1 <| o_iinc 1 1 <| o_goto 1
def bX8_init_2 (cal : ab_F) : ab_K := o_push (.int 0) <| o_istore 1 <| o_goto 3
def bX8_init_3 (cal : ab_F) : ab_K := o_iload 1 <| o_push (.int 5) <| o_cmp (fun x y => decide (y ≤ x)) 4 <| o_aload 0 <| o_getf 7 6 <| o_iload 1 <| o_new 2 [.null, .int 0, .int 0, .int 0, .int 0, .int 0] <| o_dup <| o_callI cal 27 0 <| o_aast 4 2 <| o_iinc 1 1 <| o_goto 3
def bX8_init_4 (cal : ab_F) : ab_K := o_ret none
def bX8_init (cal : ab_F) : List ab_K := [bX8_init_0 cal, bX8_init_1 cal, bX8_init_2 cal, bX8_init_3 cal, bX8_init_4 cal]
set_option maxRecDepth 100000 in
theorem sX8_init_0 {G : ab_G} {xs : List Int32} {d : Nat} {cal : ab_F} (hcs : ab_CS G (ab_Z G xs) ab_Mf cal d) : ab_Sd G (ab_Z G xs) (d + 1) (ab_mY mX8_init pX8_init) 0 (bX8_init_0 cal) :=
  sn_aload_n dX8_init_0 rfl <| sn_oinit (Nat.le_add_left 1 _) dX8_init_1 w_79 w_80 w_81 <| sn_aload_n dX8_init_4 rfl <| sn_new tyX4 tyX4_ok dX8_init_5 rfl hinX4 w_82 w_83 w_56 rfl <| sn_dup dX8_init_8 <| sq_callI mt_29 hcs dX8_init_9 w_84 w_85 w_56 rfl rfl w_86 hy_29 hm_29 <| sn_putA tyX8 tyX8_ok nmX8 dX8_init_12 rfl hinX8 (by decide) w_285 (Or.inr ⟨rfl, rfl, rfl⟩) (tyX8_ok 0 (by decide)) (fun _ => ⟨rfl, rfl⟩) ⟨rfl, rfl⟩ <| sn_aload_n dX8_init_15 rfl <| sn_new tyX4 tyX4_ok dX8_init_16 rfl hinX4 w_82 w_83 w_56 rfl <| sn_dup dX8_init_19 <| sq_callI mt_29 hcs dX8_init_20 w_84 w_85 w_56 rfl rfl w_86 hy_29 hm_29 <| sn_putA tyX8 tyX8_ok nmX8 dX8_init_23 rfl hinX8 (by decide) w_286 (Or.inr ⟨rfl, rfl, rfl⟩) (tyX8_ok 1 (by decide)) (fun _ => ⟨rfl, rfl⟩) ⟨rfl, rfl⟩ <| sn_aload_n dX8_init_26 rfl <| sn_new tyX7 tyX7_ok dX8_init_27 rfl hinX7 w_155 w_156 w_58 rfl <| sn_dup dX8_init_30 <| sq_callIN mt_67 hcs dX8_init_31 zn_0 w_158 w_58 rfl rfl w_159 hy_67 hm_67 <| sn_putA tyX8 tyX8_ok nmX8 dX8_init_34 rfl hinX8 (by decide) w_287 (Or.inr ⟨rfl, rfl, rfl⟩) (tyX8_ok 2 (by decide)) (fun _ => ⟨rfl, rfl⟩) ⟨rfl, rfl⟩ <| sn_aload_n dX8_init_37 rfl <| sn_new tyX5 tyX5_ok dX8_init_38 rfl hinX5 w_173 w_174 w_59 rfl <| sn_dup dX8_init_41 <| sq_callIN mt_60 hcs dX8_init_42 zn_1 w_176 w_59 rfl rfl w_177 hy_60 hm_60 <| sn_putA tyX8 tyX8_ok nmX8 dX8_init_45 rfl hinX8 (by decide) w_288 (Or.inr ⟨rfl, rfl, rfl⟩) (tyX8_ok 3 (by decide)) (fun _ => ⟨rfl, rfl⟩) ⟨rfl, rfl⟩ <| sn_aload_n dX8_init_48 rfl <| sn_new tyX1 tyX1_ok dX8_init_49 rfl hinX1 w_189 w_190 w_60 rfl <| sn_dup dX8_init_52 <| sn_aload_n dX8_init_53 rfl <| sn_getf dX8_init_54 rfl hinX8 (by decide) w_288 <| sq_callI mt_4 hcs dX8_init_57 w_191 w_192 w_60 rfl rfl w_193 hy_4 hm_4 <| sn_putA tyX8 tyX8_ok nmX8 dX8_init_60 rfl hinX8 (by decide) w_289 (Or.inr ⟨rfl, rfl, rfl⟩) (tyX8_ok 4 (by decide)) (fun _ => ⟨rfl, rfl⟩) ⟨rfl, rfl⟩ <| sn_aload_n dX8_init_63 rfl <| sn_iconst dX8_init_64 rfl <| sn_newa dX8_init_65 w_232 (fun U h => h.2.1 1 _ rfl) rfl <| sn_putA tyX8 tyX8_ok nmX8 dX8_init_68 rfl hinX8 (by decide) w_290 (Or.inr ⟨rfl, rfl, rfl⟩) (tyX8_ok 5 (by decide)) (fun _ => ⟨rfl, rfl⟩) ⟨rfl, rfl⟩ <| sn_aload_n dX8_init_71 rfl <| sn_iconst dX8_init_72 rfl <| sn_newa dX8_init_73 w_234 (fun U h => h.2.1 2 _ rfl) rfl <| sn_putA tyX8 tyX8_ok nmX8 dX8_init_76 rfl hinX8 (by decide) w_291 (Or.inr ⟨rfl, rfl, rfl⟩) (tyX8_ok 6 (by decide)) (fun _ => ⟨rfl, rfl⟩) ⟨rfl, rfl⟩ <| sn_aload_n dX8_init_79 rfl <| sn_bipush dX8_init_80 rfl <| sn_newi dX8_init_82 rfl w_154 rfl (fun _ _ h => h) rfl (by decide) <| sn_putA tyX8 tyX8_ok nmX8 dX8_init_84 rfl hinX8 (by decide) w_292 (Or.inr ⟨rfl, rfl, rfl⟩) (tyX8_ok 7 (by decide)) (fun _ => ⟨rfl, rfl⟩) ⟨rfl, rfl⟩ <| sn_iconst dX8_init_87 rfl <| sn_istore_n dX8_init_88 rfl (by decide) <| sn_next rfl
set_option maxRecDepth 100000 in
theorem sX8_init_1 {G : ab_G} {xs : List Int32} {d : Nat} {cal : ab_F} (hcs : ab_CS G (ab_Z G xs) ab_Mf cal d) : ab_Sd G (ab_Z G xs) (d + 1) (ab_mY mX8_init pX8_init) 89 (bX8_init_1 cal) :=
  sn_iload_n dX8_init_89 rfl <| sn_iconst dX8_init_90 rfl <| sn_cmp_ge (tg := 113) dX8_init_91 rfl rfl <| sn_aload_n dX8_init_94 rfl <| sn_getf dX8_init_95 rfl hinX8 (by decide) w_290 <| sn_iload_n dX8_init_98 rfl <| sn_new tyX2 tyX2_ok dX8_init_99 rfl hinX2 w_232 w_236 w_61 rfl <| sn_dup dX8_init_102 <| sq_callIN mt_20 hcs dX8_init_103 zn_2 w_238 w_61 rfl rfl w_239 hy_20 hm_20 <| sn_aast (q := (RX2, TX2, 3)) dX8_init_106 rfl rfl <| sn_iinc dX8_init_107 rfl (by decide) <| sn_goto (tg := 89) dX8_init_110 rfl rfl
set_option maxRecDepth 100000 in
theorem sX8_init_2 {G : ab_G} {xs : List Int32} {d : Nat} {cal : ab_F} (hcs : ab_CS G (ab_Z G xs) ab_Mf cal d) : ab_Sd G (ab_Z G xs) (d + 1) (ab_mY mX8_init pX8_init) 113 (bX8_init_2 cal) :=
  sn_iconst dX8_init_113 rfl <| sn_istore_n dX8_init_114 rfl (by decide) <| sn_next rfl
set_option maxRecDepth 100000 in
theorem sX8_init_3 {G : ab_G} {xs : List Int32} {d : Nat} {cal : ab_F} (hcs : ab_CS G (ab_Z G xs) ab_Mf cal d) : ab_Sd G (ab_Z G xs) (d + 1) (ab_mY mX8_init pX8_init) 115 (bX8_init_3 cal) :=
  sn_iload_n dX8_init_115 rfl <| sn_iconst dX8_init_116 rfl <| sn_cmp_ge (tg := 139) dX8_init_117 rfl rfl <| sn_aload_n dX8_init_120 rfl <| sn_getf dX8_init_121 rfl hinX8 (by decide) w_291 <| sn_iload_n dX8_init_124 rfl <| sn_new tyX3 tyX3_ok dX8_init_125 rfl hinX3 w_234 w_255 w_62 rfl <| sn_dup dX8_init_128 <| sq_callIN mt_27 hcs dX8_init_129 zn_3 w_257 w_62 rfl rfl w_258 hy_27 hm_27 <| sn_aast (q := (RX3, TX3, 6)) dX8_init_132 rfl rfl <| sn_iinc dX8_init_133 rfl (by decide) <| sn_goto (tg := 115) dX8_init_136 rfl rfl
set_option maxRecDepth 100000 in
theorem sX8_init_4 {G : ab_G} {xs : List Int32} {d : Nat} {cal : ab_F} (hcs : ab_CS G (ab_Z G xs) ab_Mf cal d) : ab_Sd G (ab_Z G xs) (d + 1) (ab_mY mX8_init pX8_init) 139 (bX8_init_4 cal) :=
  sn_ret dX8_init_139 ab_ri_void
theorem sX8_init {G : ab_G} {xs : List Int32} {d : Nat} {cal : ab_F} (hcs : ab_CS G (ab_Z G xs) ab_Mf cal d) : ab_BS G (ab_Z G xs) (d + 1) (ab_mY mX8_init pX8_init) pX8_init (bX8_init cal) := ⟨sX8_init_0 hcs, sX8_init_1 hcs, sX8_init_2 hcs, sX8_init_3 hcs, sX8_init_4 hcs, trivial⟩
theorem dgX8_stone_0 : decode cX8_stone 0 = .ok (.iload_n 1, 1) ∧ decode cX8_stone 1 = .ok (.iconst 0, 1) ∧ decode cX8_stone 2 = .ok (.iconst 5, 1) ∧ decode cX8_stone 3 = .ok (.invokestatic 60, 3) ∧ decode cX8_stone 6 = .ok (.ifCond .eq 23, 3) ∧ decode cX8_stone 9 = .ok (.iload_n 2, 1) ∧ decode cX8_stone 10 = .ok (.iconst 0, 1) ∧ decode cX8_stone 11 = .ok (.bipush 6, 2) ∧ decode cX8_stone 13 = .ok (.invokestatic 60, 3) ∧ decode cX8_stone 16 = .ok (.ifCond .eq 13, 3) ∧ decode cX8_stone 19 = .ok (.iload_n 3, 1) ∧ decode cX8_stone 20 = .ok (.iconst 0, 1) ∧ decode cX8_stone 21 = .ok (.bipush 6, 2) ∧ decode cX8_stone 23 = .ok (.invokestatic 60, 3) ∧ decode cX8_stone 26 = .ok (.ifCond .ne 6, 3) ∧ decode cX8_stone 29 = .ok (.ldc 64, 2) := by decide +kernel
theorem dX8_stone_0 : decode cX8_stone 0 = .ok (.iload_n 1, 1) := dgX8_stone_0.1
theorem dX8_stone_1 : decode cX8_stone 1 = .ok (.iconst 0, 1) := dgX8_stone_0.2.1
theorem dX8_stone_2 : decode cX8_stone 2 = .ok (.iconst 5, 1) := dgX8_stone_0.2.2.1
theorem dX8_stone_3 : decode cX8_stone 3 = .ok (.invokestatic 60, 3) := dgX8_stone_0.2.2.2.1
theorem dX8_stone_6 : decode cX8_stone 6 = .ok (.ifCond .eq 23, 3) := dgX8_stone_0.2.2.2.2.1
theorem dX8_stone_9 : decode cX8_stone 9 = .ok (.iload_n 2, 1) := dgX8_stone_0.2.2.2.2.2.1
theorem dX8_stone_10 : decode cX8_stone 10 = .ok (.iconst 0, 1) := dgX8_stone_0.2.2.2.2.2.2.1
theorem dX8_stone_11 : decode cX8_stone 11 = .ok (.bipush 6, 2) := dgX8_stone_0.2.2.2.2.2.2.2.1
theorem dX8_stone_13 : decode cX8_stone 13 = .ok (.invokestatic 60, 3) := dgX8_stone_0.2.2.2.2.2.2.2.2.1
theorem dX8_stone_16 : decode cX8_stone 16 = .ok (.ifCond .eq 13, 3) := dgX8_stone_0.2.2.2.2.2.2.2.2.2.1
theorem dX8_stone_19 : decode cX8_stone 19 = .ok (.iload_n 3, 1) := dgX8_stone_0.2.2.2.2.2.2.2.2.2.2.1
theorem dX8_stone_20 : decode cX8_stone 20 = .ok (.iconst 0, 1) := dgX8_stone_0.2.2.2.2.2.2.2.2.2.2.2.1
theorem dX8_stone_21 : decode cX8_stone 21 = .ok (.bipush 6, 2) := dgX8_stone_0.2.2.2.2.2.2.2.2.2.2.2.2.1
theorem dX8_stone_23 : decode cX8_stone 23 = .ok (.invokestatic 60, 3) := dgX8_stone_0.2.2.2.2.2.2.2.2.2.2.2.2.2.1
theorem dX8_stone_26 : decode cX8_stone 26 = .ok (.ifCond .ne 6, 3) := dgX8_stone_0.2.2.2.2.2.2.2.2.2.2.2.2.2.2.1
theorem dX8_stone_29 : decode cX8_stone 29 = .ok (.ldc 64, 2) := dgX8_stone_0.2.2.2.2.2.2.2.2.2.2.2.2.2.2.2
theorem dgX8_stone_1 : decode cX8_stone 31 = .ok (.ireturn, 1) ∧ decode cX8_stone 32 = .ok (.aload_n 0, 1) ∧ decode cX8_stone 33 = .ok (.getfield 10, 3) ∧ decode cX8_stone 36 = .ok (.getfield 65, 3) ∧ decode cX8_stone 39 = .ok (.bipush 12, 2) ∧ decode cX8_stone 41 = .ok (.if_icmp .lt 6, 3) ∧ decode cX8_stone 44 = .ok (.ldc 69, 2) ∧ decode cX8_stone 46 = .ok (.ireturn, 1) ∧ decode cX8_stone 47 = .ok (.aload_n 0, 1) ∧ decode cX8_stone 48 = .ok (.getfield 10, 3) ∧ decode cX8_stone 51 = .ok (.iload_n 1, 1) ∧ decode cX8_stone 52 = .ok (.iload_n 2, 1) ∧ decode cX8_stone 53 = .ok (.iload_n 3, 1) ∧ decode cX8_stone 54 = .ok (.invokevirtual 70, 3) ∧ decode cX8_stone 57 = .ok (.ireturn, 1) := by decide +kernel
theorem dX8_stone_31 : decode cX8_stone 31 = .ok (.ireturn, 1) := dgX8_stone_1.1
theorem dX8_stone_32 : decode cX8_stone 32 = .ok (.aload_n 0, 1) := dgX8_stone_1.2.1
theorem dX8_stone_33 : decode cX8_stone 33 = .ok (.getfield 10, 3) := dgX8_stone_1.2.2.1
theorem dX8_stone_36 : decode cX8_stone 36 = .ok (.getfield 65, 3) := dgX8_stone_1.2.2.2.1
theorem dX8_stone_39 : decode cX8_stone 39 = .ok (.bipush 12, 2) := dgX8_stone_1.2.2.2.2.1
theorem dX8_stone_41 : decode cX8_stone 41 = .ok (.if_icmp .lt 6, 3) := dgX8_stone_1.2.2.2.2.2.1
theorem dX8_stone_44 : decode cX8_stone 44 = .ok (.ldc 69, 2) := dgX8_stone_1.2.2.2.2.2.2.1
theorem dX8_stone_46 : decode cX8_stone 46 = .ok (.ireturn, 1) := dgX8_stone_1.2.2.2.2.2.2.2.1
theorem dX8_stone_47 : decode cX8_stone 47 = .ok (.aload_n 0, 1) := dgX8_stone_1.2.2.2.2.2.2.2.2.1
theorem dX8_stone_48 : decode cX8_stone 48 = .ok (.getfield 10, 3) := dgX8_stone_1.2.2.2.2.2.2.2.2.2.1
theorem dX8_stone_51 : decode cX8_stone 51 = .ok (.iload_n 1, 1) := dgX8_stone_1.2.2.2.2.2.2.2.2.2.2.1
theorem dX8_stone_52 : decode cX8_stone 52 = .ok (.iload_n 2, 1) := dgX8_stone_1.2.2.2.2.2.2.2.2.2.2.2.1
theorem dX8_stone_53 : decode cX8_stone 53 = .ok (.iload_n 3, 1) := dgX8_stone_1.2.2.2.2.2.2.2.2.2.2.2.2.1
theorem dX8_stone_54 : decode cX8_stone 54 = .ok (.invokevirtual 70, 3) := dgX8_stone_1.2.2.2.2.2.2.2.2.2.2.2.2.2.1
theorem dX8_stone_57 : decode cX8_stone 57 = .ok (.ireturn, 1) := dgX8_stone_1.2.2.2.2.2.2.2.2.2.2.2.2.2.2
abbrev pX8_stone : List Nat := [0, 29, 32, 47]
def bX8_stone_0 (cal : ab_F) : ab_K := o_iload 1 <| o_push (.int 0) <| o_push (.int 5) <| o_callS cal 123 3 <| o_if (fun x => decide (x = 0)) 1 <| o_iload 2 <| o_push (.int 0) <| o_push (.int 6) <| o_callS cal 123 3 <| o_if (fun x => decide (x = 0)) 1 <| o_iload 3 <| o_push (.int 0) <| o_push (.int 6) <| o_callS cal 123 3 <| o_if (fun x => decide (¬ x = 0)) 2 <| o_goto 1
def bX8_stone_1 (cal : ab_F) : ab_K := o_push (.int (-1000000001)) <| o_ret (some .int)
def bX8_stone_2 (cal : ab_F) : ab_K := o_aload 0 <| o_getf 7 0 <| o_getf 3 10 <| o_push (.int 12) <| o_cmp (fun x y => decide (x < y)) 3 <| o_push (.int (-1000000003)) <| o_ret (some .int)
def bX8_stone_3 (cal : ab_F) : ab_K := o_aload 0 <| o_getf 7 0 <| o_iload 1 <| o_iload 2 <| o_iload 3 <| o_callV cal 31 3 3 <| o_ret (some .int)
def bX8_stone (cal : ab_F) : List ab_K := [bX8_stone_0 cal, bX8_stone_1 cal, bX8_stone_2 cal, bX8_stone_3 cal]
set_option maxRecDepth 100000 in
theorem sX8_stone_0 {G : ab_G} {xs : List Int32} {d : Nat} {cal : ab_F} (hcs : ab_CS G (ab_Z G xs) ab_Mf cal d) : ab_Sd G (ab_Z G xs) (d + 1) (ab_mY mX8_stone pX8_stone) 0 (bX8_stone_0 cal) :=
  sn_iload_n dX8_stone_0 rfl <| sn_iconst dX8_stone_1 rfl <| sn_iconst dX8_stone_2 rfl <| sq_callS mt_123 hcs dX8_stone_3 w_320 w_321 w_55 w_322 hy_123 hm_123 <| sn_if_eq (tg := 29) dX8_stone_6 rfl rfl <| sn_iload_n dX8_stone_9 rfl <| sn_iconst dX8_stone_10 rfl <| sn_bipush dX8_stone_11 rfl <| sq_callS mt_123 hcs dX8_stone_13 w_320 w_321 w_55 w_322 hy_123 hm_123 <| sn_if_eq (tg := 29) dX8_stone_16 rfl rfl <| sn_iload_n dX8_stone_19 rfl <| sn_iconst dX8_stone_20 rfl <| sn_bipush dX8_stone_21 rfl <| sq_callS mt_123 hcs dX8_stone_23 w_320 w_321 w_55 w_322 hy_123 hm_123 <| sn_if_ne (tg := 32) dX8_stone_26 rfl rfl <| sn_next rfl
set_option maxRecDepth 100000 in
theorem sX8_stone_1 {G : ab_G} {xs : List Int32} {d : Nat} {cal : ab_F} (hcs : ab_CS G (ab_Z G xs) ab_Mf cal d) : ab_Sd G (ab_Z G xs) (d + 1) (ab_mY mX8_stone pX8_stone) 29 (bX8_stone_1 cal) :=
  sn_ldc dX8_stone_29 w_323 <| sn_ret dX8_stone_31 ab_ri_int
set_option maxRecDepth 100000 in
theorem sX8_stone_2 {G : ab_G} {xs : List Int32} {d : Nat} {cal : ab_F} (hcs : ab_CS G (ab_Z G xs) ab_Mf cal d) : ab_Sd G (ab_Z G xs) (d + 1) (ab_mY mX8_stone pX8_stone) 32 (bX8_stone_2 cal) :=
  sn_aload_n dX8_stone_32 rfl <| sn_getf dX8_stone_33 rfl hinX8 (by decide) w_285 <| sn_getf dX8_stone_36 rfl hinX4 (by decide) w_112 <| sn_bipush dX8_stone_39 rfl <| sn_cmp_lt (tg := 47) dX8_stone_41 rfl rfl <| sn_ldc dX8_stone_44 w_324 <| sn_ret dX8_stone_46 ab_ri_int
set_option maxRecDepth 100000 in
theorem sX8_stone_3 {G : ab_G} {xs : List Int32} {d : Nat} {cal : ab_F} (hcs : ab_CS G (ab_Z G xs) ab_Mf cal d) : ab_Sd G (ab_Z G xs) (d + 1) (ab_mY mX8_stone pX8_stone) 47 (bX8_stone_3 cal) :=
  sn_aload_n dX8_stone_47 rfl <| sn_getf dX8_stone_48 rfl hinX8 (by decide) w_285 <| sn_iload_n dX8_stone_51 rfl <| sn_iload_n dX8_stone_52 rfl <| sn_iload_n dX8_stone_53 rfl <| sq_callV mt_31 hcs dX8_stone_54 rfl w_325 w_326 w_327 w_56 w_328 hy_31 hm_31 <| sn_ret dX8_stone_57 ab_ri_int
theorem sX8_stone {G : ab_G} {xs : List Int32} {d : Nat} {cal : ab_F} (hcs : ab_CS G (ab_Z G xs) ab_Mf cal d) : ab_BS G (ab_Z G xs) (d + 1) (ab_mY mX8_stone pX8_stone) pX8_stone (bX8_stone cal) := ⟨sX8_stone_0 hcs, sX8_stone_1 hcs, sX8_stone_2 hcs, sX8_stone_3 hcs, trivial⟩
theorem dgX8_told_0 : decode cX8_told 0 = .ok (.aload_n 0, 1) ∧ decode cX8_told 1 = .ok (.iload_n 1, 1) ∧ decode cX8_told 2 = .ok (.invokevirtual 74, 3) ∧ decode cX8_told 5 = .ok (.ifCond .ne 6, 3) ∧ decode cX8_told 8 = .ok (.ldc 64, 2) ∧ decode cX8_told 10 = .ok (.ireturn, 1) ∧ decode cX8_told 11 = .ok (.iload_n 2, 1) ∧ decode cX8_told 12 = .ok (.tableswitch 134 0 6 #[44, 54, 64, 74, 84, 94, 103], 44) ∧ decode cX8_told 56 = .ok (.aload_n 0, 1) ∧ decode cX8_told 57 = .ok (.getfield 10, 3) ∧ decode cX8_told 60 = .ok (.getfield 78, 3) ∧ decode cX8_told 63 = .ok (.iload_n 1, 1) ∧ decode cX8_told 64 = .ok (.iaload, 1) ∧ decode cX8_told 65 = .ok (.ireturn, 1) ∧ decode cX8_told 66 = .ok (.aload_n 0, 1) ∧ decode cX8_told 67 = .ok (.getfield 10, 3) := by decide +kernel
theorem dX8_told_0 : decode cX8_told 0 = .ok (.aload_n 0, 1) := dgX8_told_0.1
theorem dX8_told_1 : decode cX8_told 1 = .ok (.iload_n 1, 1) := dgX8_told_0.2.1
theorem dX8_told_2 : decode cX8_told 2 = .ok (.invokevirtual 74, 3) := dgX8_told_0.2.2.1
theorem dX8_told_5 : decode cX8_told 5 = .ok (.ifCond .ne 6, 3) := dgX8_told_0.2.2.2.1
theorem dX8_told_8 : decode cX8_told 8 = .ok (.ldc 64, 2) := dgX8_told_0.2.2.2.2.1
theorem dX8_told_10 : decode cX8_told 10 = .ok (.ireturn, 1) := dgX8_told_0.2.2.2.2.2.1
theorem dX8_told_11 : decode cX8_told 11 = .ok (.iload_n 2, 1) := dgX8_told_0.2.2.2.2.2.2.1
theorem dX8_told_12 : decode cX8_told 12 = .ok (.tableswitch 134 0 6 #[44, 54, 64, 74, 84, 94, 103], 44) := dgX8_told_0.2.2.2.2.2.2.2.1
theorem dX8_told_56 : decode cX8_told 56 = .ok (.aload_n 0, 1) := dgX8_told_0.2.2.2.2.2.2.2.2.1
theorem dX8_told_57 : decode cX8_told 57 = .ok (.getfield 10, 3) := dgX8_told_0.2.2.2.2.2.2.2.2.2.1
theorem dX8_told_60 : decode cX8_told 60 = .ok (.getfield 78, 3) := dgX8_told_0.2.2.2.2.2.2.2.2.2.2.1
theorem dX8_told_63 : decode cX8_told 63 = .ok (.iload_n 1, 1) := dgX8_told_0.2.2.2.2.2.2.2.2.2.2.2.1
theorem dX8_told_64 : decode cX8_told 64 = .ok (.iaload, 1) := dgX8_told_0.2.2.2.2.2.2.2.2.2.2.2.2.1
theorem dX8_told_65 : decode cX8_told 65 = .ok (.ireturn, 1) := dgX8_told_0.2.2.2.2.2.2.2.2.2.2.2.2.2.1
theorem dX8_told_66 : decode cX8_told 66 = .ok (.aload_n 0, 1) := dgX8_told_0.2.2.2.2.2.2.2.2.2.2.2.2.2.2.1
theorem dX8_told_67 : decode cX8_told 67 = .ok (.getfield 10, 3) := dgX8_told_0.2.2.2.2.2.2.2.2.2.2.2.2.2.2.2
theorem dgX8_told_1 : decode cX8_told 70 = .ok (.getfield 81, 3) ∧ decode cX8_told 73 = .ok (.iload_n 1, 1) ∧ decode cX8_told 74 = .ok (.iaload, 1) ∧ decode cX8_told 75 = .ok (.ireturn, 1) ∧ decode cX8_told 76 = .ok (.aload_n 0, 1) ∧ decode cX8_told 77 = .ok (.getfield 10, 3) ∧ decode cX8_told 80 = .ok (.getfield 84, 3) ∧ decode cX8_told 83 = .ok (.iload_n 1, 1) ∧ decode cX8_told 84 = .ok (.iaload, 1) ∧ decode cX8_told 85 = .ok (.ireturn, 1) ∧ decode cX8_told 86 = .ok (.aload_n 0, 1) ∧ decode cX8_told 87 = .ok (.getfield 10, 3) ∧ decode cX8_told 90 = .ok (.getfield 87, 3) ∧ decode cX8_told 93 = .ok (.iload_n 1, 1) ∧ decode cX8_told 94 = .ok (.iaload, 1) ∧ decode cX8_told 95 = .ok (.ireturn, 1) := by decide +kernel
theorem dX8_told_70 : decode cX8_told 70 = .ok (.getfield 81, 3) := dgX8_told_1.1
theorem dX8_told_73 : decode cX8_told 73 = .ok (.iload_n 1, 1) := dgX8_told_1.2.1
theorem dX8_told_74 : decode cX8_told 74 = .ok (.iaload, 1) := dgX8_told_1.2.2.1
theorem dX8_told_75 : decode cX8_told 75 = .ok (.ireturn, 1) := dgX8_told_1.2.2.2.1
theorem dX8_told_76 : decode cX8_told 76 = .ok (.aload_n 0, 1) := dgX8_told_1.2.2.2.2.1
theorem dX8_told_77 : decode cX8_told 77 = .ok (.getfield 10, 3) := dgX8_told_1.2.2.2.2.2.1
theorem dX8_told_80 : decode cX8_told 80 = .ok (.getfield 84, 3) := dgX8_told_1.2.2.2.2.2.2.1
theorem dX8_told_83 : decode cX8_told 83 = .ok (.iload_n 1, 1) := dgX8_told_1.2.2.2.2.2.2.2.1
theorem dX8_told_84 : decode cX8_told 84 = .ok (.iaload, 1) := dgX8_told_1.2.2.2.2.2.2.2.2.1
theorem dX8_told_85 : decode cX8_told 85 = .ok (.ireturn, 1) := dgX8_told_1.2.2.2.2.2.2.2.2.2.1
theorem dX8_told_86 : decode cX8_told 86 = .ok (.aload_n 0, 1) := dgX8_told_1.2.2.2.2.2.2.2.2.2.2.1
theorem dX8_told_87 : decode cX8_told 87 = .ok (.getfield 10, 3) := dgX8_told_1.2.2.2.2.2.2.2.2.2.2.2.1
theorem dX8_told_90 : decode cX8_told 90 = .ok (.getfield 87, 3) := dgX8_told_1.2.2.2.2.2.2.2.2.2.2.2.2.1
theorem dX8_told_93 : decode cX8_told 93 = .ok (.iload_n 1, 1) := dgX8_told_1.2.2.2.2.2.2.2.2.2.2.2.2.2.1
theorem dX8_told_94 : decode cX8_told 94 = .ok (.iaload, 1) := dgX8_told_1.2.2.2.2.2.2.2.2.2.2.2.2.2.2.1
theorem dX8_told_95 : decode cX8_told 95 = .ok (.ireturn, 1) := dgX8_told_1.2.2.2.2.2.2.2.2.2.2.2.2.2.2.2
theorem dgX8_told_2 : decode cX8_told 96 = .ok (.aload_n 0, 1) ∧ decode cX8_told 97 = .ok (.getfield 10, 3) ∧ decode cX8_told 100 = .ok (.getfield 90, 3) ∧ decode cX8_told 103 = .ok (.iload_n 1, 1) ∧ decode cX8_told 104 = .ok (.iaload, 1) ∧ decode cX8_told 105 = .ok (.ireturn, 1) ∧ decode cX8_told 106 = .ok (.aload_n 0, 1) ∧ decode cX8_told 107 = .ok (.getfield 10, 3) ∧ decode cX8_told 110 = .ok (.iload_n 1, 1) ∧ decode cX8_told 111 = .ok (.invokevirtual 93, 3) ∧ decode cX8_told 114 = .ok (.ireturn, 1) ∧ decode cX8_told 115 = .ok (.aload_n 0, 1) ∧ decode cX8_told 116 = .ok (.getfield 10, 3) ∧ decode cX8_told 119 = .ok (.getfield 78, 3) ∧ decode cX8_told 122 = .ok (.iload_n 1, 1) ∧ decode cX8_told 123 = .ok (.iaload, 1) := by decide +kernel
theorem dX8_told_96 : decode cX8_told 96 = .ok (.aload_n 0, 1) := dgX8_told_2.1
theorem dX8_told_97 : decode cX8_told 97 = .ok (.getfield 10, 3) := dgX8_told_2.2.1
theorem dX8_told_100 : decode cX8_told 100 = .ok (.getfield 90, 3) := dgX8_told_2.2.2.1
theorem dX8_told_103 : decode cX8_told 103 = .ok (.iload_n 1, 1) := dgX8_told_2.2.2.2.1
theorem dX8_told_104 : decode cX8_told 104 = .ok (.iaload, 1) := dgX8_told_2.2.2.2.2.1
theorem dX8_told_105 : decode cX8_told 105 = .ok (.ireturn, 1) := dgX8_told_2.2.2.2.2.2.1
theorem dX8_told_106 : decode cX8_told 106 = .ok (.aload_n 0, 1) := dgX8_told_2.2.2.2.2.2.2.1
theorem dX8_told_107 : decode cX8_told 107 = .ok (.getfield 10, 3) := dgX8_told_2.2.2.2.2.2.2.2.1
theorem dX8_told_110 : decode cX8_told 110 = .ok (.iload_n 1, 1) := dgX8_told_2.2.2.2.2.2.2.2.2.1
theorem dX8_told_111 : decode cX8_told 111 = .ok (.invokevirtual 93, 3) := dgX8_told_2.2.2.2.2.2.2.2.2.2.1
theorem dX8_told_114 : decode cX8_told 114 = .ok (.ireturn, 1) := dgX8_told_2.2.2.2.2.2.2.2.2.2.2.1
theorem dX8_told_115 : decode cX8_told 115 = .ok (.aload_n 0, 1) := dgX8_told_2.2.2.2.2.2.2.2.2.2.2.2.1
theorem dX8_told_116 : decode cX8_told 116 = .ok (.getfield 10, 3) := dgX8_told_2.2.2.2.2.2.2.2.2.2.2.2.2.1
theorem dX8_told_119 : decode cX8_told 119 = .ok (.getfield 78, 3) := dgX8_told_2.2.2.2.2.2.2.2.2.2.2.2.2.2.1
theorem dX8_told_122 : decode cX8_told 122 = .ok (.iload_n 1, 1) := dgX8_told_2.2.2.2.2.2.2.2.2.2.2.2.2.2.2.1
theorem dX8_told_123 : decode cX8_told 123 = .ok (.iaload, 1) := dgX8_told_2.2.2.2.2.2.2.2.2.2.2.2.2.2.2.2
theorem dgX8_told_3 : decode cX8_told 124 = .ok (.aload_n 0, 1) ∧ decode cX8_told 125 = .ok (.getfield 10, 3) ∧ decode cX8_told 128 = .ok (.getfield 81, 3) ∧ decode cX8_told 131 = .ok (.iload_n 1, 1) ∧ decode cX8_told 132 = .ok (.iaload, 1) ∧ decode cX8_told 133 = .ok (.aload_n 0, 1) ∧ decode cX8_told 134 = .ok (.getfield 10, 3) ∧ decode cX8_told 137 = .ok (.getfield 84, 3) ∧ decode cX8_told 140 = .ok (.iload_n 1, 1) ∧ decode cX8_told 141 = .ok (.iaload, 1) ∧ decode cX8_told 142 = .ok (.invokestatic 97, 3) ∧ decode cX8_told 145 = .ok (.ireturn, 1) ∧ decode cX8_told 146 = .ok (.ldc 64, 2) ∧ decode cX8_told 148 = .ok (.ireturn, 1) := by decide +kernel
theorem dX8_told_124 : decode cX8_told 124 = .ok (.aload_n 0, 1) := dgX8_told_3.1
theorem dX8_told_125 : decode cX8_told 125 = .ok (.getfield 10, 3) := dgX8_told_3.2.1
theorem dX8_told_128 : decode cX8_told 128 = .ok (.getfield 81, 3) := dgX8_told_3.2.2.1
theorem dX8_told_131 : decode cX8_told 131 = .ok (.iload_n 1, 1) := dgX8_told_3.2.2.2.1
theorem dX8_told_132 : decode cX8_told 132 = .ok (.iaload, 1) := dgX8_told_3.2.2.2.2.1
theorem dX8_told_133 : decode cX8_told 133 = .ok (.aload_n 0, 1) := dgX8_told_3.2.2.2.2.2.1
theorem dX8_told_134 : decode cX8_told 134 = .ok (.getfield 10, 3) := dgX8_told_3.2.2.2.2.2.2.1
theorem dX8_told_137 : decode cX8_told 137 = .ok (.getfield 84, 3) := dgX8_told_3.2.2.2.2.2.2.2.1
theorem dX8_told_140 : decode cX8_told 140 = .ok (.iload_n 1, 1) := dgX8_told_3.2.2.2.2.2.2.2.2.1
theorem dX8_told_141 : decode cX8_told 141 = .ok (.iaload, 1) := dgX8_told_3.2.2.2.2.2.2.2.2.2.1
theorem dX8_told_142 : decode cX8_told 142 = .ok (.invokestatic 97, 3) := dgX8_told_3.2.2.2.2.2.2.2.2.2.2.1
theorem dX8_told_145 : decode cX8_told 145 = .ok (.ireturn, 1) := dgX8_told_3.2.2.2.2.2.2.2.2.2.2.2.1
theorem dX8_told_146 : decode cX8_told 146 = .ok (.ldc 64, 2) := dgX8_told_3.2.2.2.2.2.2.2.2.2.2.2.2.1
theorem dX8_told_148 : decode cX8_told 148 = .ok (.ireturn, 1) := dgX8_told_3.2.2.2.2.2.2.2.2.2.2.2.2.2
abbrev pX8_told : List Nat := [0, 11, 56, 66, 76, 86, 96, 106, 115, 146]
def bX8_told_0 (cal : ab_F) : ab_K := o_aload 0 <| o_iload 1 <| o_callV cal 119 1 7 <| o_if (fun x => decide (¬ x = 0)) 1 <| o_push (.int (-1000000001)) <| o_ret (some .int)
def bX8_told_1 (cal : ab_F) : ab_K := o_iload 2 <| o_sw (ab_tsw 0 [2, 3, 4, 5, 6, 7, 8] 9)
def bX8_told_2 (cal : ab_F) : ab_K := o_aload 0 <| o_getf 7 0 <| o_getf 3 0 <| o_iload 1 <| o_iald 0 <| o_ret (some .int)
def bX8_told_3 (cal : ab_F) : ab_K := o_aload 0 <| o_getf 7 0 <| o_getf 3 1 <| o_iload 1 <| o_iald 0 <| o_ret (some .int)
def bX8_told_4 (cal : ab_F) : ab_K := o_aload 0 <| o_getf 7 0 <| o_getf 3 2 <| o_iload 1 <| o_iald 0 <| o_ret (some .int)
def bX8_told_5 (cal : ab_F) : ab_K := o_aload 0 <| o_getf 7 0 <| o_getf 3 3 <| o_iload 1 <| o_iald 0 <| o_ret (some .int)
def bX8_told_6 (cal : ab_F) : ab_K := o_aload 0 <| o_getf 7 0 <| o_getf 3 4 <| o_iload 1 <| o_iald 0 <| o_ret (some .int)
def bX8_told_7 (cal : ab_F) : ab_K := o_aload 0 <| o_getf 7 0 <| o_iload 1 <| o_callV cal 40 1 3 <| o_ret (some .int)
def bX8_told_8 (cal : ab_F) : ab_K := o_aload 0 <| o_getf 7 0 <| o_getf 3 0 <| o_iload 1 <| o_iald 0 <| o_aload 0 <| o_getf 7 0 <| o_getf 3 1 <| o_iload 1 <| o_iald 0 <| o_aload 0 <| o_getf 7 0 <| o_getf 3 2 <| o_iload 1 <| o_iald 0 <| o_callS cal 3 3 <| o_ret (some .int)
def bX8_told_9 (cal : ab_F) : ab_K := o_push (.int (-1000000001)) <| o_ret (some .int)
def bX8_told (cal : ab_F) : List ab_K := [bX8_told_0 cal, bX8_told_1 cal, bX8_told_2 cal, bX8_told_3 cal, bX8_told_4 cal, bX8_told_5 cal, bX8_told_6 cal, bX8_told_7 cal, bX8_told_8 cal, bX8_told_9 cal]
set_option maxRecDepth 100000 in
theorem sX8_told_0 {G : ab_G} {xs : List Int32} {d : Nat} {cal : ab_F} (hcs : ab_CS G (ab_Z G xs) ab_Mf cal d) : ab_Sd G (ab_Z G xs) (d + 1) (ab_mY mX8_told pX8_told) 0 (bX8_told_0 cal) :=
  sn_aload_n dX8_told_0 rfl <| sn_iload_n dX8_told_1 rfl <| sq_callV mt_119 hcs dX8_told_2 rfl w_386 w_388 w_0 w_55 w_389 hy_119 hm_119 <| sn_if_ne (tg := 11) dX8_told_5 rfl rfl <| sn_ldc dX8_told_8 w_323 <| sn_ret dX8_told_10 ab_ri_int
set_option maxRecDepth 100000 in
theorem sX8_told_1 {G : ab_G} {xs : List Int32} {d : Nat} {cal : ab_F} (hcs : ab_CS G (ab_Z G xs) ab_Mf cal d) : ab_Sd G (ab_Z G xs) (d + 1) (ab_mY mX8_told pX8_told) 11 (bX8_told_1 cal) :=
  sn_iload_n dX8_told_11 rfl <| sn_tsw dX8_told_12 rfl rfl rfl
set_option maxRecDepth 100000 in
theorem sX8_told_2 {G : ab_G} {xs : List Int32} {d : Nat} {cal : ab_F} (hcs : ab_CS G (ab_Z G xs) ab_Mf cal d) : ab_Sd G (ab_Z G xs) (d + 1) (ab_mY mX8_told pX8_told) 56 (bX8_told_2 cal) :=
  sn_aload_n dX8_told_56 rfl <| sn_getf dX8_told_57 rfl hinX8 (by decide) w_285 <| sn_getf dX8_told_60 rfl hinX4 (by decide) w_94 <| sn_iload_n dX8_told_63 rfl <| sn_iald dX8_told_64 rfl <| sn_ret dX8_told_65 ab_ri_int
set_option maxRecDepth 100000 in
theorem sX8_told_3 {G : ab_G} {xs : List Int32} {d : Nat} {cal : ab_F} (hcs : ab_CS G (ab_Z G xs) ab_Mf cal d) : ab_Sd G (ab_Z G xs) (d + 1) (ab_mY mX8_told pX8_told) 66 (bX8_told_3 cal) :=
  sn_aload_n dX8_told_66 rfl <| sn_getf dX8_told_67 rfl hinX8 (by decide) w_285 <| sn_getf dX8_told_70 rfl hinX4 (by decide) w_96 <| sn_iload_n dX8_told_73 rfl <| sn_iald dX8_told_74 rfl <| sn_ret dX8_told_75 ab_ri_int
set_option maxRecDepth 100000 in
theorem sX8_told_4 {G : ab_G} {xs : List Int32} {d : Nat} {cal : ab_F} (hcs : ab_CS G (ab_Z G xs) ab_Mf cal d) : ab_Sd G (ab_Z G xs) (d + 1) (ab_mY mX8_told pX8_told) 76 (bX8_told_4 cal) :=
  sn_aload_n dX8_told_76 rfl <| sn_getf dX8_told_77 rfl hinX8 (by decide) w_285 <| sn_getf dX8_told_80 rfl hinX4 (by decide) w_98 <| sn_iload_n dX8_told_83 rfl <| sn_iald dX8_told_84 rfl <| sn_ret dX8_told_85 ab_ri_int
set_option maxRecDepth 100000 in
theorem sX8_told_5 {G : ab_G} {xs : List Int32} {d : Nat} {cal : ab_F} (hcs : ab_CS G (ab_Z G xs) ab_Mf cal d) : ab_Sd G (ab_Z G xs) (d + 1) (ab_mY mX8_told pX8_told) 86 (bX8_told_5 cal) :=
  sn_aload_n dX8_told_86 rfl <| sn_getf dX8_told_87 rfl hinX8 (by decide) w_285 <| sn_getf dX8_told_90 rfl hinX4 (by decide) w_100 <| sn_iload_n dX8_told_93 rfl <| sn_iald dX8_told_94 rfl <| sn_ret dX8_told_95 ab_ri_int
set_option maxRecDepth 100000 in
theorem sX8_told_6 {G : ab_G} {xs : List Int32} {d : Nat} {cal : ab_F} (hcs : ab_CS G (ab_Z G xs) ab_Mf cal d) : ab_Sd G (ab_Z G xs) (d + 1) (ab_mY mX8_told pX8_told) 96 (bX8_told_6 cal) :=
  sn_aload_n dX8_told_96 rfl <| sn_getf dX8_told_97 rfl hinX8 (by decide) w_285 <| sn_getf dX8_told_100 rfl hinX4 (by decide) w_103 <| sn_iload_n dX8_told_103 rfl <| sn_iald dX8_told_104 rfl <| sn_ret dX8_told_105 ab_ri_int
set_option maxRecDepth 100000 in
theorem sX8_told_7 {G : ab_G} {xs : List Int32} {d : Nat} {cal : ab_F} (hcs : ab_CS G (ab_Z G xs) ab_Mf cal d) : ab_Sd G (ab_Z G xs) (d + 1) (ab_mY mX8_told pX8_told) 106 (bX8_told_7 cal) :=
  sn_aload_n dX8_told_106 rfl <| sn_getf dX8_told_107 rfl hinX8 (by decide) w_285 <| sn_iload_n dX8_told_110 rfl <| sq_callV mt_40 hcs dX8_told_111 rfl w_390 w_343 w_344 w_56 w_345 hy_40 hm_40 <| sn_ret dX8_told_114 ab_ri_int
set_option maxRecDepth 100000 in
theorem sX8_told_8 {G : ab_G} {xs : List Int32} {d : Nat} {cal : ab_F} (hcs : ab_CS G (ab_Z G xs) ab_Mf cal d) : ab_Sd G (ab_Z G xs) (d + 1) (ab_mY mX8_told pX8_told) 115 (bX8_told_8 cal) :=
  sn_aload_n dX8_told_115 rfl <| sn_getf dX8_told_116 rfl hinX8 (by decide) w_285 <| sn_getf dX8_told_119 rfl hinX4 (by decide) w_94 <| sn_iload_n dX8_told_122 rfl <| sn_iald dX8_told_123 rfl <| sn_aload_n dX8_told_124 rfl <| sn_getf dX8_told_125 rfl hinX8 (by decide) w_285 <| sn_getf dX8_told_128 rfl hinX4 (by decide) w_96 <| sn_iload_n dX8_told_131 rfl <| sn_iald dX8_told_132 rfl <| sn_aload_n dX8_told_133 rfl <| sn_getf dX8_told_134 rfl hinX8 (by decide) w_285 <| sn_getf dX8_told_137 rfl hinX4 (by decide) w_98 <| sn_iload_n dX8_told_140 rfl <| sn_iald dX8_told_141 rfl <| sq_callS mt_3 hcs dX8_told_142 w_391 w_392 w_64 w_393 hy_3 hm_3 <| sn_ret dX8_told_145 ab_ri_int
set_option maxRecDepth 100000 in
theorem sX8_told_9 {G : ab_G} {xs : List Int32} {d : Nat} {cal : ab_F} (hcs : ab_CS G (ab_Z G xs) ab_Mf cal d) : ab_Sd G (ab_Z G xs) (d + 1) (ab_mY mX8_told pX8_told) 146 (bX8_told_9 cal) :=
  sn_ldc dX8_told_146 w_323 <| sn_ret dX8_told_148 ab_ri_int
theorem sX8_told {G : ab_G} {xs : List Int32} {d : Nat} {cal : ab_F} (hcs : ab_CS G (ab_Z G xs) ab_Mf cal d) : ab_BS G (ab_Z G xs) (d + 1) (ab_mY mX8_told pX8_told) pX8_told (bX8_told cal) := ⟨sX8_told_0 hcs, sX8_told_1 hcs, sX8_told_2 hcs, sX8_told_3 hcs, sX8_told_4 hcs, sX8_told_5 hcs, sX8_told_6 hcs, sX8_told_7 hcs, sX8_told_8 hcs, sX8_told_9 hcs, trivial⟩
theorem dgX8_off_0 : decode cX8_off 0 = .ok (.aload_n 0, 1) ∧ decode cX8_off 1 = .ok (.iload_n 1, 1) ∧ decode cX8_off 2 = .ok (.invokevirtual 74, 3) ∧ decode cX8_off 5 = .ok (.ifCond .eq 19, 3) ∧ decode cX8_off 8 = .ok (.iload_n 2, 1) ∧ decode cX8_off 9 = .ok (.invokestatic 102, 3) ∧ decode cX8_off 12 = .ok (.ifCond .eq 12, 3) ∧ decode cX8_off 15 = .ok (.iload_n 3, 1) ∧ decode cX8_off 16 = .ok (.iconst 0, 1) ∧ decode cX8_off 17 = .ok (.iconst 1, 1) ∧ decode cX8_off 18 = .ok (.invokestatic 60, 3) ∧ decode cX8_off 21 = .ok (.ifCond .ne 6, 3) ∧ decode cX8_off 24 = .ok (.ldc 64, 2) ∧ decode cX8_off 26 = .ok (.ireturn, 1) ∧ decode cX8_off 27 = .ok (.aload_n 0, 1) ∧ decode cX8_off 28 = .ok (.getfield 10, 3) := by decide +kernel
theorem dX8_off_0 : decode cX8_off 0 = .ok (.aload_n 0, 1) := dgX8_off_0.1
theorem dX8_off_1 : decode cX8_off 1 = .ok (.iload_n 1, 1) := dgX8_off_0.2.1
theorem dX8_off_2 : decode cX8_off 2 = .ok (.invokevirtual 74, 3) := dgX8_off_0.2.2.1
theorem dX8_off_5 : decode cX8_off 5 = .ok (.ifCond .eq 19, 3) := dgX8_off_0.2.2.2.1
theorem dX8_off_8 : decode cX8_off 8 = .ok (.iload_n 2, 1) := dgX8_off_0.2.2.2.2.1
theorem dX8_off_9 : decode cX8_off 9 = .ok (.invokestatic 102, 3) := dgX8_off_0.2.2.2.2.2.1
theorem dX8_off_12 : decode cX8_off 12 = .ok (.ifCond .eq 12, 3) := dgX8_off_0.2.2.2.2.2.2.1
theorem dX8_off_15 : decode cX8_off 15 = .ok (.iload_n 3, 1) := dgX8_off_0.2.2.2.2.2.2.2.1
theorem dX8_off_16 : decode cX8_off 16 = .ok (.iconst 0, 1) := dgX8_off_0.2.2.2.2.2.2.2.2.1
theorem dX8_off_17 : decode cX8_off 17 = .ok (.iconst 1, 1) := dgX8_off_0.2.2.2.2.2.2.2.2.2.1
theorem dX8_off_18 : decode cX8_off 18 = .ok (.invokestatic 60, 3) := dgX8_off_0.2.2.2.2.2.2.2.2.2.2.1
theorem dX8_off_21 : decode cX8_off 21 = .ok (.ifCond .ne 6, 3) := dgX8_off_0.2.2.2.2.2.2.2.2.2.2.2.1
theorem dX8_off_24 : decode cX8_off 24 = .ok (.ldc 64, 2) := dgX8_off_0.2.2.2.2.2.2.2.2.2.2.2.2.1
theorem dX8_off_26 : decode cX8_off 26 = .ok (.ireturn, 1) := dgX8_off_0.2.2.2.2.2.2.2.2.2.2.2.2.2.1
theorem dX8_off_27 : decode cX8_off 27 = .ok (.aload_n 0, 1) := dgX8_off_0.2.2.2.2.2.2.2.2.2.2.2.2.2.2.1
theorem dX8_off_28 : decode cX8_off 28 = .ok (.getfield 10, 3) := dgX8_off_0.2.2.2.2.2.2.2.2.2.2.2.2.2.2.2
theorem dgX8_off_1 : decode cX8_off 31 = .ok (.iload_n 1, 1) ∧ decode cX8_off 32 = .ok (.iload_n 2, 1) ∧ decode cX8_off 33 = .ok (.iload_n 3, 1) ∧ decode cX8_off 34 = .ok (.invokevirtual 105, 3) ∧ decode cX8_off 37 = .ok (.ireturn, 1) := by decide +kernel
theorem dX8_off_31 : decode cX8_off 31 = .ok (.iload_n 1, 1) := dgX8_off_1.1
theorem dX8_off_32 : decode cX8_off 32 = .ok (.iload_n 2, 1) := dgX8_off_1.2.1
theorem dX8_off_33 : decode cX8_off 33 = .ok (.iload_n 3, 1) := dgX8_off_1.2.2.1
theorem dX8_off_34 : decode cX8_off 34 = .ok (.invokevirtual 105, 3) := dgX8_off_1.2.2.2.1
theorem dX8_off_37 : decode cX8_off 37 = .ok (.ireturn, 1) := dgX8_off_1.2.2.2.2
abbrev pX8_off : List Nat := [0, 24, 27]
def bX8_off_0 (cal : ab_F) : ab_K := o_aload 0 <| o_iload 1 <| o_callV cal 119 1 7 <| o_if (fun x => decide (x = 0)) 1 <| o_iload 2 <| o_callS cal 120 1 <| o_if (fun x => decide (x = 0)) 1 <| o_iload 3 <| o_push (.int 0) <| o_push (.int 1) <| o_callS cal 123 3 <| o_if (fun x => decide (¬ x = 0)) 2 <| o_goto 1
def bX8_off_1 (cal : ab_F) : ab_K := o_push (.int (-1000000001)) <| o_ret (some .int)
def bX8_off_2 (cal : ab_F) : ab_K := o_aload 0 <| o_getf 7 0 <| o_iload 1 <| o_iload 2 <| o_iload 3 <| o_callV cal 42 3 3 <| o_ret (some .int)
def bX8_off (cal : ab_F) : List ab_K := [bX8_off_0 cal, bX8_off_1 cal, bX8_off_2 cal]
set_option maxRecDepth 100000 in
theorem sX8_off_0 {G : ab_G} {xs : List Int32} {d : Nat} {cal : ab_F} (hcs : ab_CS G (ab_Z G xs) ab_Mf cal d) : ab_Sd G (ab_Z G xs) (d + 1) (ab_mY mX8_off pX8_off) 0 (bX8_off_0 cal) :=
  sn_aload_n dX8_off_0 rfl <| sn_iload_n dX8_off_1 rfl <| sq_callV mt_119 hcs dX8_off_2 rfl w_386 w_388 w_0 w_55 w_389 hy_119 hm_119 <| sn_if_eq (tg := 24) dX8_off_5 rfl rfl <| sn_iload_n dX8_off_8 rfl <| sq_callS mt_120 hcs dX8_off_9 w_398 w_399 w_55 w_400 hy_120 hm_120 <| sn_if_eq (tg := 24) dX8_off_12 rfl rfl <| sn_iload_n dX8_off_15 rfl <| sn_iconst dX8_off_16 rfl <| sn_iconst dX8_off_17 rfl <| sq_callS mt_123 hcs dX8_off_18 w_320 w_321 w_55 w_322 hy_123 hm_123 <| sn_if_ne (tg := 27) dX8_off_21 rfl rfl <| sn_next rfl
set_option maxRecDepth 100000 in
theorem sX8_off_1 {G : ab_G} {xs : List Int32} {d : Nat} {cal : ab_F} (hcs : ab_CS G (ab_Z G xs) ab_Mf cal d) : ab_Sd G (ab_Z G xs) (d + 1) (ab_mY mX8_off pX8_off) 24 (bX8_off_1 cal) :=
  sn_ldc dX8_off_24 w_323 <| sn_ret dX8_off_26 ab_ri_int
set_option maxRecDepth 100000 in
theorem sX8_off_2 {G : ab_G} {xs : List Int32} {d : Nat} {cal : ab_F} (hcs : ab_CS G (ab_Z G xs) ab_Mf cal d) : ab_Sd G (ab_Z G xs) (d + 1) (ab_mY mX8_off pX8_off) 27 (bX8_off_2 cal) :=
  sn_aload_n dX8_off_27 rfl <| sn_getf dX8_off_28 rfl hinX8 (by decide) w_285 <| sn_iload_n dX8_off_31 rfl <| sn_iload_n dX8_off_32 rfl <| sn_iload_n dX8_off_33 rfl <| sq_callV mt_42 hcs dX8_off_34 rfl w_401 w_402 w_403 w_56 w_404 hy_42 hm_42 <| sn_ret dX8_off_37 ab_ri_int
theorem sX8_off {G : ab_G} {xs : List Int32} {d : Nat} {cal : ab_F} (hcs : ab_CS G (ab_Z G xs) ab_Mf cal d) : ab_BS G (ab_Z G xs) (d + 1) (ab_mY mX8_off pX8_off) pX8_off (bX8_off cal) := ⟨sX8_off_0 hcs, sX8_off_1 hcs, sX8_off_2 hcs, trivial⟩
theorem dgX8_as_0 : decode cX8_as 0 = .ok (.aload_n 0, 1) ∧ decode cX8_as 1 = .ok (.iload_n 1, 1) ∧ decode cX8_as 2 = .ok (.invokevirtual 74, 3) ∧ decode cX8_as 5 = .ok (.ifCond .eq 12, 3) ∧ decode cX8_as 8 = .ok (.iload_n 2, 1) ∧ decode cX8_as 9 = .ok (.iconst 0, 1) ∧ decode cX8_as 10 = .ok (.iconst 5, 1) ∧ decode cX8_as 11 = .ok (.invokestatic 60, 3) ∧ decode cX8_as 14 = .ok (.ifCond .ne 6, 3) ∧ decode cX8_as 17 = .ok (.ldc 64, 2) ∧ decode cX8_as 19 = .ok (.ireturn, 1) ∧ decode cX8_as 20 = .ok (.aload_n 0, 1) ∧ decode cX8_as 21 = .ok (.getfield 10, 3) ∧ decode cX8_as 24 = .ok (.getfield 78, 3) ∧ decode cX8_as 27 = .ok (.iload_n 1, 1) ∧ decode cX8_as 28 = .ok (.iaload, 1) := by decide +kernel
theorem dX8_as_0 : decode cX8_as 0 = .ok (.aload_n 0, 1) := dgX8_as_0.1
theorem dX8_as_1 : decode cX8_as 1 = .ok (.iload_n 1, 1) := dgX8_as_0.2.1
theorem dX8_as_2 : decode cX8_as 2 = .ok (.invokevirtual 74, 3) := dgX8_as_0.2.2.1
theorem dX8_as_5 : decode cX8_as 5 = .ok (.ifCond .eq 12, 3) := dgX8_as_0.2.2.2.1
theorem dX8_as_8 : decode cX8_as 8 = .ok (.iload_n 2, 1) := dgX8_as_0.2.2.2.2.1
theorem dX8_as_9 : decode cX8_as 9 = .ok (.iconst 0, 1) := dgX8_as_0.2.2.2.2.2.1
theorem dX8_as_10 : decode cX8_as 10 = .ok (.iconst 5, 1) := dgX8_as_0.2.2.2.2.2.2.1
theorem dX8_as_11 : decode cX8_as 11 = .ok (.invokestatic 60, 3) := dgX8_as_0.2.2.2.2.2.2.2.1
theorem dX8_as_14 : decode cX8_as 14 = .ok (.ifCond .ne 6, 3) := dgX8_as_0.2.2.2.2.2.2.2.2.1
theorem dX8_as_17 : decode cX8_as 17 = .ok (.ldc 64, 2) := dgX8_as_0.2.2.2.2.2.2.2.2.2.1
theorem dX8_as_19 : decode cX8_as 19 = .ok (.ireturn, 1) := dgX8_as_0.2.2.2.2.2.2.2.2.2.2.1
theorem dX8_as_20 : decode cX8_as 20 = .ok (.aload_n 0, 1) := dgX8_as_0.2.2.2.2.2.2.2.2.2.2.2.1
theorem dX8_as_21 : decode cX8_as 21 = .ok (.getfield 10, 3) := dgX8_as_0.2.2.2.2.2.2.2.2.2.2.2.2.1
theorem dX8_as_24 : decode cX8_as 24 = .ok (.getfield 78, 3) := dgX8_as_0.2.2.2.2.2.2.2.2.2.2.2.2.2.1
theorem dX8_as_27 : decode cX8_as 27 = .ok (.iload_n 1, 1) := dgX8_as_0.2.2.2.2.2.2.2.2.2.2.2.2.2.2.1
theorem dX8_as_28 : decode cX8_as 28 = .ok (.iaload, 1) := dgX8_as_0.2.2.2.2.2.2.2.2.2.2.2.2.2.2.2
theorem dgX8_as_1 : decode cX8_as 29 = .ok (.iload_n 2, 1) ∧ decode cX8_as 30 = .ok (.invokestatic 108, 3) ∧ decode cX8_as 33 = .ok (.ifCond .eq 15, 3) ∧ decode cX8_as 36 = .ok (.aload_n 0, 1) ∧ decode cX8_as 37 = .ok (.getfield 10, 3) ∧ decode cX8_as 40 = .ok (.getfield 81, 3) ∧ decode cX8_as 43 = .ok (.iload_n 1, 1) ∧ decode cX8_as 44 = .ok (.iaload, 1) ∧ decode cX8_as 45 = .ok (.goto 5, 3) ∧ decode cX8_as 48 = .ok (.ldc 112, 2) ∧ decode cX8_as 50 = .ok (.ireturn, 1) := by decide +kernel
theorem dX8_as_29 : decode cX8_as 29 = .ok (.iload_n 2, 1) := dgX8_as_1.1
theorem dX8_as_30 : decode cX8_as 30 = .ok (.invokestatic 108, 3) := dgX8_as_1.2.1
theorem dX8_as_33 : decode cX8_as 33 = .ok (.ifCond .eq 15, 3) := dgX8_as_1.2.2.1
theorem dX8_as_36 : decode cX8_as 36 = .ok (.aload_n 0, 1) := dgX8_as_1.2.2.2.1
theorem dX8_as_37 : decode cX8_as 37 = .ok (.getfield 10, 3) := dgX8_as_1.2.2.2.2.1
theorem dX8_as_40 : decode cX8_as 40 = .ok (.getfield 81, 3) := dgX8_as_1.2.2.2.2.2.1
theorem dX8_as_43 : decode cX8_as 43 = .ok (.iload_n 1, 1) := dgX8_as_1.2.2.2.2.2.2.1
theorem dX8_as_44 : decode cX8_as 44 = .ok (.iaload, 1) := dgX8_as_1.2.2.2.2.2.2.2.1
theorem dX8_as_45 : decode cX8_as 45 = .ok (.goto 5, 3) := dgX8_as_1.2.2.2.2.2.2.2.2.1
theorem dX8_as_48 : decode cX8_as 48 = .ok (.ldc 112, 2) := dgX8_as_1.2.2.2.2.2.2.2.2.2.1
theorem dX8_as_50 : decode cX8_as 50 = .ok (.ireturn, 1) := dgX8_as_1.2.2.2.2.2.2.2.2.2.2
abbrev pX8_as : List Nat := [0, 17, 20, 48, 50]
def bX8_as_0 (cal : ab_F) : ab_K := o_aload 0 <| o_iload 1 <| o_callV cal 119 1 7 <| o_if (fun x => decide (x = 0)) 1 <| o_iload 2 <| o_push (.int 0) <| o_push (.int 5) <| o_callS cal 123 3 <| o_if (fun x => decide (¬ x = 0)) 2 <| o_goto 1
def bX8_as_1 (cal : ab_F) : ab_K := o_push (.int (-1000000001)) <| o_ret (some .int)
def bX8_as_2 (cal : ab_F) : ab_K := o_aload 0 <| o_getf 7 0 <| o_getf 3 0 <| o_iload 1 <| o_iald 0 <| o_iload 2 <| o_callS cal 0 2 <| o_if (fun x => decide (x = 0)) 3 <| o_aload 0 <| o_getf 7 0 <| o_getf 3 1 <| o_iload 1 <| o_iald 0 <| o_goto 4
def bX8_as_3 (cal : ab_F) : ab_K := o_push (.int (-1000000012)) <| o_goto 4
def bX8_as_4 (cal : ab_F) : ab_K := o_ret (some .int)
def bX8_as (cal : ab_F) : List ab_K := [bX8_as_0 cal, bX8_as_1 cal, bX8_as_2 cal, bX8_as_3 cal, bX8_as_4 cal]
set_option maxRecDepth 100000 in
theorem sX8_as_0 {G : ab_G} {xs : List Int32} {d : Nat} {cal : ab_F} (hcs : ab_CS G (ab_Z G xs) ab_Mf cal d) : ab_Sd G (ab_Z G xs) (d + 1) (ab_mY mX8_as pX8_as) 0 (bX8_as_0 cal) :=
  sn_aload_n dX8_as_0 rfl <| sn_iload_n dX8_as_1 rfl <| sq_callV mt_119 hcs dX8_as_2 rfl w_386 w_388 w_0 w_55 w_389 hy_119 hm_119 <| sn_if_eq (tg := 17) dX8_as_5 rfl rfl <| sn_iload_n dX8_as_8 rfl <| sn_iconst dX8_as_9 rfl <| sn_iconst dX8_as_10 rfl <| sq_callS mt_123 hcs dX8_as_11 w_320 w_321 w_55 w_322 hy_123 hm_123 <| sn_if_ne (tg := 20) dX8_as_14 rfl rfl <| sn_next rfl
set_option maxRecDepth 100000 in
theorem sX8_as_1 {G : ab_G} {xs : List Int32} {d : Nat} {cal : ab_F} (hcs : ab_CS G (ab_Z G xs) ab_Mf cal d) : ab_Sd G (ab_Z G xs) (d + 1) (ab_mY mX8_as pX8_as) 17 (bX8_as_1 cal) :=
  sn_ldc dX8_as_17 w_323 <| sn_ret dX8_as_19 ab_ri_int
set_option maxRecDepth 100000 in
theorem sX8_as_2 {G : ab_G} {xs : List Int32} {d : Nat} {cal : ab_F} (hcs : ab_CS G (ab_Z G xs) ab_Mf cal d) : ab_Sd G (ab_Z G xs) (d + 1) (ab_mY mX8_as pX8_as) 20 (bX8_as_2 cal) :=
  sn_aload_n dX8_as_20 rfl <| sn_getf dX8_as_21 rfl hinX8 (by decide) w_285 <| sn_getf dX8_as_24 rfl hinX4 (by decide) w_94 <| sn_iload_n dX8_as_27 rfl <| sn_iald dX8_as_28 rfl <| sn_iload_n dX8_as_29 rfl <| sq_callS mt_0 hcs dX8_as_30 w_412 w_413 w_64 w_414 hy_0 hm_0 <| sn_if_eq (tg := 48) dX8_as_33 rfl rfl <| sn_aload_n dX8_as_36 rfl <| sn_getf dX8_as_37 rfl hinX8 (by decide) w_285 <| sn_getf dX8_as_40 rfl hinX4 (by decide) w_96 <| sn_iload_n dX8_as_43 rfl <| sn_iald dX8_as_44 rfl <| sn_goto (tg := 50) dX8_as_45 rfl rfl
set_option maxRecDepth 100000 in
theorem sX8_as_3 {G : ab_G} {xs : List Int32} {d : Nat} {cal : ab_F} (hcs : ab_CS G (ab_Z G xs) ab_Mf cal d) : ab_Sd G (ab_Z G xs) (d + 1) (ab_mY mX8_as pX8_as) 48 (bX8_as_3 cal) :=
  sn_ldc dX8_as_48 w_417 <| sn_next rfl
set_option maxRecDepth 100000 in
theorem sX8_as_4 {G : ab_G} {xs : List Int32} {d : Nat} {cal : ab_F} (hcs : ab_CS G (ab_Z G xs) ab_Mf cal d) : ab_Sd G (ab_Z G xs) (d + 1) (ab_mY mX8_as pX8_as) 50 (bX8_as_4 cal) :=
  sn_ret dX8_as_50 ab_ri_int
theorem sX8_as {G : ab_G} {xs : List Int32} {d : Nat} {cal : ab_F} (hcs : ab_CS G (ab_Z G xs) ab_Mf cal d) : ab_BS G (ab_Z G xs) (d + 1) (ab_mY mX8_as pX8_as) pX8_as (bX8_as cal) := ⟨sX8_as_0 hcs, sX8_as_1 hcs, sX8_as_2 hcs, sX8_as_3 hcs, sX8_as_4 hcs, trivial⟩
theorem dgX8_turns_0 : decode cX8_turns 0 = .ok (.aload_n 0, 1) ∧ decode cX8_turns 1 = .ok (.iload_n 1, 1) ∧ decode cX8_turns 2 = .ok (.invokevirtual 74, 3) ∧ decode cX8_turns 5 = .ok (.ifCond .eq 12, 3) ∧ decode cX8_turns 8 = .ok (.iload_n 2, 1) ∧ decode cX8_turns 9 = .ok (.iconst 0, 1) ∧ decode cX8_turns 10 = .ok (.iconst 5, 1) ∧ decode cX8_turns 11 = .ok (.invokestatic 60, 3) ∧ decode cX8_turns 14 = .ok (.ifCond .ne 6, 3) ∧ decode cX8_turns 17 = .ok (.ldc 64, 2) ∧ decode cX8_turns 19 = .ok (.ireturn, 1) ∧ decode cX8_turns 20 = .ok (.aload_n 0, 1) ∧ decode cX8_turns 21 = .ok (.getfield 10, 3) ∧ decode cX8_turns 24 = .ok (.getfield 78, 3) ∧ decode cX8_turns 27 = .ok (.iload_n 1, 1) ∧ decode cX8_turns 28 = .ok (.iaload, 1) := by decide +kernel
theorem dX8_turns_0 : decode cX8_turns 0 = .ok (.aload_n 0, 1) := dgX8_turns_0.1
theorem dX8_turns_1 : decode cX8_turns 1 = .ok (.iload_n 1, 1) := dgX8_turns_0.2.1
theorem dX8_turns_2 : decode cX8_turns 2 = .ok (.invokevirtual 74, 3) := dgX8_turns_0.2.2.1
theorem dX8_turns_5 : decode cX8_turns 5 = .ok (.ifCond .eq 12, 3) := dgX8_turns_0.2.2.2.1
theorem dX8_turns_8 : decode cX8_turns 8 = .ok (.iload_n 2, 1) := dgX8_turns_0.2.2.2.2.1
theorem dX8_turns_9 : decode cX8_turns 9 = .ok (.iconst 0, 1) := dgX8_turns_0.2.2.2.2.2.1
theorem dX8_turns_10 : decode cX8_turns 10 = .ok (.iconst 5, 1) := dgX8_turns_0.2.2.2.2.2.2.1
theorem dX8_turns_11 : decode cX8_turns 11 = .ok (.invokestatic 60, 3) := dgX8_turns_0.2.2.2.2.2.2.2.1
theorem dX8_turns_14 : decode cX8_turns 14 = .ok (.ifCond .ne 6, 3) := dgX8_turns_0.2.2.2.2.2.2.2.2.1
theorem dX8_turns_17 : decode cX8_turns 17 = .ok (.ldc 64, 2) := dgX8_turns_0.2.2.2.2.2.2.2.2.2.1
theorem dX8_turns_19 : decode cX8_turns 19 = .ok (.ireturn, 1) := dgX8_turns_0.2.2.2.2.2.2.2.2.2.2.1
theorem dX8_turns_20 : decode cX8_turns 20 = .ok (.aload_n 0, 1) := dgX8_turns_0.2.2.2.2.2.2.2.2.2.2.2.1
theorem dX8_turns_21 : decode cX8_turns 21 = .ok (.getfield 10, 3) := dgX8_turns_0.2.2.2.2.2.2.2.2.2.2.2.2.1
theorem dX8_turns_24 : decode cX8_turns 24 = .ok (.getfield 78, 3) := dgX8_turns_0.2.2.2.2.2.2.2.2.2.2.2.2.2.1
theorem dX8_turns_27 : decode cX8_turns 27 = .ok (.iload_n 1, 1) := dgX8_turns_0.2.2.2.2.2.2.2.2.2.2.2.2.2.2.1
theorem dX8_turns_28 : decode cX8_turns 28 = .ok (.iaload, 1) := dgX8_turns_0.2.2.2.2.2.2.2.2.2.2.2.2.2.2.2
theorem dgX8_turns_1 : decode cX8_turns 29 = .ok (.istore_n 3, 1) ∧ decode cX8_turns 30 = .ok (.aload_n 0, 1) ∧ decode cX8_turns 31 = .ok (.getfield 10, 3) ∧ decode cX8_turns 34 = .ok (.getfield 78, 3) ∧ decode cX8_turns 37 = .ok (.iload_n 1, 1) ∧ decode cX8_turns 38 = .ok (.iload_n 2, 1) ∧ decode cX8_turns 39 = .ok (.iastore, 1) ∧ decode cX8_turns 40 = .ok (.aload_n 0, 1) ∧ decode cX8_turns 41 = .ok (.getfield 10, 3) ∧ decode cX8_turns 44 = .ok (.iload_n 1, 1) ∧ decode cX8_turns 45 = .ok (.invokevirtual 113, 3) ∧ decode cX8_turns 48 = .ok (.iload_n 3, 1) ∧ decode cX8_turns 49 = .ok (.ireturn, 1) := by decide +kernel
theorem dX8_turns_29 : decode cX8_turns 29 = .ok (.istore_n 3, 1) := dgX8_turns_1.1
theorem dX8_turns_30 : decode cX8_turns 30 = .ok (.aload_n 0, 1) := dgX8_turns_1.2.1
theorem dX8_turns_31 : decode cX8_turns 31 = .ok (.getfield 10, 3) := dgX8_turns_1.2.2.1
theorem dX8_turns_34 : decode cX8_turns 34 = .ok (.getfield 78, 3) := dgX8_turns_1.2.2.2.1
theorem dX8_turns_37 : decode cX8_turns 37 = .ok (.iload_n 1, 1) := dgX8_turns_1.2.2.2.2.1
theorem dX8_turns_38 : decode cX8_turns 38 = .ok (.iload_n 2, 1) := dgX8_turns_1.2.2.2.2.2.1
theorem dX8_turns_39 : decode cX8_turns 39 = .ok (.iastore, 1) := dgX8_turns_1.2.2.2.2.2.2.1
theorem dX8_turns_40 : decode cX8_turns 40 = .ok (.aload_n 0, 1) := dgX8_turns_1.2.2.2.2.2.2.2.1
theorem dX8_turns_41 : decode cX8_turns 41 = .ok (.getfield 10, 3) := dgX8_turns_1.2.2.2.2.2.2.2.2.1
theorem dX8_turns_44 : decode cX8_turns 44 = .ok (.iload_n 1, 1) := dgX8_turns_1.2.2.2.2.2.2.2.2.2.1
theorem dX8_turns_45 : decode cX8_turns 45 = .ok (.invokevirtual 113, 3) := dgX8_turns_1.2.2.2.2.2.2.2.2.2.2.1
theorem dX8_turns_48 : decode cX8_turns 48 = .ok (.iload_n 3, 1) := dgX8_turns_1.2.2.2.2.2.2.2.2.2.2.2.1
theorem dX8_turns_49 : decode cX8_turns 49 = .ok (.ireturn, 1) := dgX8_turns_1.2.2.2.2.2.2.2.2.2.2.2.2
abbrev pX8_turns : List Nat := [0, 17, 20]
def bX8_turns_0 (cal : ab_F) : ab_K := o_aload 0 <| o_iload 1 <| o_callV cal 119 1 7 <| o_if (fun x => decide (x = 0)) 1 <| o_iload 2 <| o_push (.int 0) <| o_push (.int 5) <| o_callS cal 123 3 <| o_if (fun x => decide (¬ x = 0)) 2 <| o_goto 1
def bX8_turns_1 (cal : ab_F) : ab_K := o_push (.int (-1000000001)) <| o_ret (some .int)
def bX8_turns_2 (cal : ab_F) : ab_K := o_aload 0 <| o_getf 7 0 <| o_getf 3 0 <| o_iload 1 <| o_iald 0 <| o_istore 3 <| o_aload 0 <| o_getf 7 0 <| o_getf 3 0 <| o_iload 1 <| o_iload 2 <| o_iast 0 (fun x => x) <| o_aload 0 <| o_getf 7 0 <| o_iload 1 <| o_callV cal 37 1 3 <| o_iload 3 <| o_ret (some .int)
def bX8_turns (cal : ab_F) : List ab_K := [bX8_turns_0 cal, bX8_turns_1 cal, bX8_turns_2 cal]
set_option maxRecDepth 100000 in
theorem sX8_turns_0 {G : ab_G} {xs : List Int32} {d : Nat} {cal : ab_F} (hcs : ab_CS G (ab_Z G xs) ab_Mf cal d) : ab_Sd G (ab_Z G xs) (d + 1) (ab_mY mX8_turns pX8_turns) 0 (bX8_turns_0 cal) :=
  sn_aload_n dX8_turns_0 rfl <| sn_iload_n dX8_turns_1 rfl <| sq_callV mt_119 hcs dX8_turns_2 rfl w_386 w_388 w_0 w_55 w_389 hy_119 hm_119 <| sn_if_eq (tg := 17) dX8_turns_5 rfl rfl <| sn_iload_n dX8_turns_8 rfl <| sn_iconst dX8_turns_9 rfl <| sn_iconst dX8_turns_10 rfl <| sq_callS mt_123 hcs dX8_turns_11 w_320 w_321 w_55 w_322 hy_123 hm_123 <| sn_if_ne (tg := 20) dX8_turns_14 rfl rfl <| sn_next rfl
set_option maxRecDepth 100000 in
theorem sX8_turns_1 {G : ab_G} {xs : List Int32} {d : Nat} {cal : ab_F} (hcs : ab_CS G (ab_Z G xs) ab_Mf cal d) : ab_Sd G (ab_Z G xs) (d + 1) (ab_mY mX8_turns pX8_turns) 17 (bX8_turns_1 cal) :=
  sn_ldc dX8_turns_17 w_323 <| sn_ret dX8_turns_19 ab_ri_int
set_option maxRecDepth 100000 in
theorem sX8_turns_2 {G : ab_G} {xs : List Int32} {d : Nat} {cal : ab_F} (hcs : ab_CS G (ab_Z G xs) ab_Mf cal d) : ab_Sd G (ab_Z G xs) (d + 1) (ab_mY mX8_turns pX8_turns) 20 (bX8_turns_2 cal) :=
  sn_aload_n dX8_turns_20 rfl <| sn_getf dX8_turns_21 rfl hinX8 (by decide) w_285 <| sn_getf dX8_turns_24 rfl hinX4 (by decide) w_94 <| sn_iload_n dX8_turns_27 rfl <| sn_iald dX8_turns_28 rfl <| sn_istore_n dX8_turns_29 rfl (by decide) <| sn_aload_n dX8_turns_30 rfl <| sn_getf dX8_turns_31 rfl hinX8 (by decide) w_285 <| sn_getf dX8_turns_34 rfl hinX4 (by decide) w_94 <| sn_iload_n dX8_turns_37 rfl <| sn_iload_n dX8_turns_38 rfl <| sn_iast dX8_turns_39 rfl rfl <| sn_aload_n dX8_turns_40 rfl <| sn_getf dX8_turns_41 rfl hinX8 (by decide) w_285 <| sn_iload_n dX8_turns_44 rfl <| sq_callV mt_37 hcs dX8_turns_45 rfl w_422 w_330 w_331 w_56 w_332 hy_37 hm_37 <| sn_iload_n dX8_turns_48 rfl <| sn_ret dX8_turns_49 ab_ri_int
theorem sX8_turns {G : ab_G} {xs : List Int32} {d : Nat} {cal : ab_F} (hcs : ab_CS G (ab_Z G xs) ab_Mf cal d) : ab_BS G (ab_Z G xs) (d + 1) (ab_mY mX8_turns pX8_turns) pX8_turns (bX8_turns cal) := ⟨sX8_turns_0 hcs, sX8_turns_1 hcs, sX8_turns_2 hcs, trivial⟩
theorem dgX8_put_0 : decode cX8_put 0 = .ok (.aload_n 0, 1) ∧ decode cX8_put 1 = .ok (.iload_n 1, 1) ∧ decode cX8_put 2 = .ok (.invokevirtual 74, 3) ∧ decode cX8_put 5 = .ok (.ifCond .eq 19, 3) ∧ decode cX8_put 8 = .ok (.iload_n 2, 1) ∧ decode cX8_put 9 = .ok (.invokestatic 102, 3) ∧ decode cX8_put 12 = .ok (.ifCond .eq 12, 3) ∧ decode cX8_put 15 = .ok (.iload_n 3, 1) ∧ decode cX8_put 16 = .ok (.iconst 0, 1) ∧ decode cX8_put 17 = .ok (.iconst 1, 1) ∧ decode cX8_put 18 = .ok (.invokestatic 60, 3) ∧ decode cX8_put 21 = .ok (.ifCond .ne 6, 3) ∧ decode cX8_put 24 = .ok (.ldc 64, 2) ∧ decode cX8_put 26 = .ok (.ireturn, 1) ∧ decode cX8_put 27 = .ok (.aload_n 0, 1) ∧ decode cX8_put 28 = .ok (.getfield 10, 3) := by decide +kernel
theorem dX8_put_0 : decode cX8_put 0 = .ok (.aload_n 0, 1) := dgX8_put_0.1
theorem dX8_put_1 : decode cX8_put 1 = .ok (.iload_n 1, 1) := dgX8_put_0.2.1
theorem dX8_put_2 : decode cX8_put 2 = .ok (.invokevirtual 74, 3) := dgX8_put_0.2.2.1
theorem dX8_put_5 : decode cX8_put 5 = .ok (.ifCond .eq 19, 3) := dgX8_put_0.2.2.2.1
theorem dX8_put_8 : decode cX8_put 8 = .ok (.iload_n 2, 1) := dgX8_put_0.2.2.2.2.1
theorem dX8_put_9 : decode cX8_put 9 = .ok (.invokestatic 102, 3) := dgX8_put_0.2.2.2.2.2.1
theorem dX8_put_12 : decode cX8_put 12 = .ok (.ifCond .eq 12, 3) := dgX8_put_0.2.2.2.2.2.2.1
theorem dX8_put_15 : decode cX8_put 15 = .ok (.iload_n 3, 1) := dgX8_put_0.2.2.2.2.2.2.2.1
theorem dX8_put_16 : decode cX8_put 16 = .ok (.iconst 0, 1) := dgX8_put_0.2.2.2.2.2.2.2.2.1
theorem dX8_put_17 : decode cX8_put 17 = .ok (.iconst 1, 1) := dgX8_put_0.2.2.2.2.2.2.2.2.2.1
theorem dX8_put_18 : decode cX8_put 18 = .ok (.invokestatic 60, 3) := dgX8_put_0.2.2.2.2.2.2.2.2.2.2.1
theorem dX8_put_21 : decode cX8_put 21 = .ok (.ifCond .ne 6, 3) := dgX8_put_0.2.2.2.2.2.2.2.2.2.2.2.1
theorem dX8_put_24 : decode cX8_put 24 = .ok (.ldc 64, 2) := dgX8_put_0.2.2.2.2.2.2.2.2.2.2.2.2.1
theorem dX8_put_26 : decode cX8_put 26 = .ok (.ireturn, 1) := dgX8_put_0.2.2.2.2.2.2.2.2.2.2.2.2.2.1
theorem dX8_put_27 : decode cX8_put 27 = .ok (.aload_n 0, 1) := dgX8_put_0.2.2.2.2.2.2.2.2.2.2.2.2.2.2.1
theorem dX8_put_28 : decode cX8_put 28 = .ok (.getfield 10, 3) := dgX8_put_0.2.2.2.2.2.2.2.2.2.2.2.2.2.2.2
theorem dgX8_put_1 : decode cX8_put 31 = .ok (.getfield 117, 3) ∧ decode cX8_put 34 = .ok (.iload_n 2, 1) ∧ decode cX8_put 35 = .ok (.iaload, 1) ∧ decode cX8_put 36 = .ok (.iconst (-1), 1) ∧ decode cX8_put 37 = .ok (.if_icmp .eq 19, 3) ∧ decode cX8_put 40 = .ok (.aload_n 0, 1) ∧ decode cX8_put 41 = .ok (.getfield 10, 3) ∧ decode cX8_put 44 = .ok (.getfield 117, 3) ∧ decode cX8_put 47 = .ok (.iload_n 2, 1) ∧ decode cX8_put 48 = .ok (.iaload, 1) ∧ decode cX8_put 49 = .ok (.iload_n 1, 1) ∧ decode cX8_put 50 = .ok (.if_icmp .eq 6, 3) ∧ decode cX8_put 53 = .ok (.ldc 120, 2) ∧ decode cX8_put 55 = .ok (.ireturn, 1) ∧ decode cX8_put 56 = .ok (.aload_n 0, 1) ∧ decode cX8_put 57 = .ok (.getfield 10, 3) := by decide +kernel
theorem dX8_put_31 : decode cX8_put 31 = .ok (.getfield 117, 3) := dgX8_put_1.1
theorem dX8_put_34 : decode cX8_put 34 = .ok (.iload_n 2, 1) := dgX8_put_1.2.1
theorem dX8_put_35 : decode cX8_put 35 = .ok (.iaload, 1) := dgX8_put_1.2.2.1
theorem dX8_put_36 : decode cX8_put 36 = .ok (.iconst (-1), 1) := dgX8_put_1.2.2.2.1
theorem dX8_put_37 : decode cX8_put 37 = .ok (.if_icmp .eq 19, 3) := dgX8_put_1.2.2.2.2.1
theorem dX8_put_40 : decode cX8_put 40 = .ok (.aload_n 0, 1) := dgX8_put_1.2.2.2.2.2.1
theorem dX8_put_41 : decode cX8_put 41 = .ok (.getfield 10, 3) := dgX8_put_1.2.2.2.2.2.2.1
theorem dX8_put_44 : decode cX8_put 44 = .ok (.getfield 117, 3) := dgX8_put_1.2.2.2.2.2.2.2.1
theorem dX8_put_47 : decode cX8_put 47 = .ok (.iload_n 2, 1) := dgX8_put_1.2.2.2.2.2.2.2.2.1
theorem dX8_put_48 : decode cX8_put 48 = .ok (.iaload, 1) := dgX8_put_1.2.2.2.2.2.2.2.2.2.1
theorem dX8_put_49 : decode cX8_put 49 = .ok (.iload_n 1, 1) := dgX8_put_1.2.2.2.2.2.2.2.2.2.2.1
theorem dX8_put_50 : decode cX8_put 50 = .ok (.if_icmp .eq 6, 3) := dgX8_put_1.2.2.2.2.2.2.2.2.2.2.2.1
theorem dX8_put_53 : decode cX8_put 53 = .ok (.ldc 120, 2) := dgX8_put_1.2.2.2.2.2.2.2.2.2.2.2.2.1
theorem dX8_put_55 : decode cX8_put 55 = .ok (.ireturn, 1) := dgX8_put_1.2.2.2.2.2.2.2.2.2.2.2.2.2.1
theorem dX8_put_56 : decode cX8_put 56 = .ok (.aload_n 0, 1) := dgX8_put_1.2.2.2.2.2.2.2.2.2.2.2.2.2.2.1
theorem dX8_put_57 : decode cX8_put 57 = .ok (.getfield 10, 3) := dgX8_put_1.2.2.2.2.2.2.2.2.2.2.2.2.2.2.2
theorem dgX8_put_2 : decode cX8_put 60 = .ok (.getfield 87, 3) ∧ decode cX8_put 63 = .ok (.iload_n 1, 1) ∧ decode cX8_put 64 = .ok (.iaload, 1) ∧ decode cX8_put 65 = .ok (.istore 4, 2) ∧ decode cX8_put 67 = .ok (.aload_n 0, 1) ∧ decode cX8_put 68 = .ok (.getfield 10, 3) ∧ decode cX8_put 71 = .ok (.iload_n 1, 1) ∧ decode cX8_put 72 = .ok (.iload_n 2, 1) ∧ decode cX8_put 73 = .ok (.invokevirtual 121, 3) ∧ decode cX8_put 76 = .ok (.aload_n 0, 1) ∧ decode cX8_put 77 = .ok (.getfield 10, 3) ∧ decode cX8_put 80 = .ok (.getfield 90, 3) ∧ decode cX8_put 83 = .ok (.iload_n 1, 1) ∧ decode cX8_put 84 = .ok (.iload_n 3, 1) ∧ decode cX8_put 85 = .ok (.iastore, 1) ∧ decode cX8_put 86 = .ok (.iload 4, 2) := by decide +kernel
theorem dX8_put_60 : decode cX8_put 60 = .ok (.getfield 87, 3) := dgX8_put_2.1
theorem dX8_put_63 : decode cX8_put 63 = .ok (.iload_n 1, 1) := dgX8_put_2.2.1
theorem dX8_put_64 : decode cX8_put 64 = .ok (.iaload, 1) := dgX8_put_2.2.2.1
theorem dX8_put_65 : decode cX8_put 65 = .ok (.istore 4, 2) := dgX8_put_2.2.2.2.1
theorem dX8_put_67 : decode cX8_put 67 = .ok (.aload_n 0, 1) := dgX8_put_2.2.2.2.2.1
theorem dX8_put_68 : decode cX8_put 68 = .ok (.getfield 10, 3) := dgX8_put_2.2.2.2.2.2.1
theorem dX8_put_71 : decode cX8_put 71 = .ok (.iload_n 1, 1) := dgX8_put_2.2.2.2.2.2.2.1
theorem dX8_put_72 : decode cX8_put 72 = .ok (.iload_n 2, 1) := dgX8_put_2.2.2.2.2.2.2.2.1
theorem dX8_put_73 : decode cX8_put 73 = .ok (.invokevirtual 121, 3) := dgX8_put_2.2.2.2.2.2.2.2.2.1
theorem dX8_put_76 : decode cX8_put 76 = .ok (.aload_n 0, 1) := dgX8_put_2.2.2.2.2.2.2.2.2.2.1
theorem dX8_put_77 : decode cX8_put 77 = .ok (.getfield 10, 3) := dgX8_put_2.2.2.2.2.2.2.2.2.2.2.1
theorem dX8_put_80 : decode cX8_put 80 = .ok (.getfield 90, 3) := dgX8_put_2.2.2.2.2.2.2.2.2.2.2.2.1
theorem dX8_put_83 : decode cX8_put 83 = .ok (.iload_n 1, 1) := dgX8_put_2.2.2.2.2.2.2.2.2.2.2.2.2.1
theorem dX8_put_84 : decode cX8_put 84 = .ok (.iload_n 3, 1) := dgX8_put_2.2.2.2.2.2.2.2.2.2.2.2.2.2.1
theorem dX8_put_85 : decode cX8_put 85 = .ok (.iastore, 1) := dgX8_put_2.2.2.2.2.2.2.2.2.2.2.2.2.2.2.1
theorem dX8_put_86 : decode cX8_put 86 = .ok (.iload 4, 2) := dgX8_put_2.2.2.2.2.2.2.2.2.2.2.2.2.2.2.2
theorem dX8_put_88 : decode cX8_put 88 = .ok (.ireturn, 1) := by decide +kernel
abbrev pX8_put : List Nat := [0, 24, 27, 56]
def bX8_put_0 (cal : ab_F) : ab_K := o_aload 0 <| o_iload 1 <| o_callV cal 119 1 7 <| o_if (fun x => decide (x = 0)) 1 <| o_iload 2 <| o_callS cal 120 1 <| o_if (fun x => decide (x = 0)) 1 <| o_iload 3 <| o_push (.int 0) <| o_push (.int 1) <| o_callS cal 123 3 <| o_if (fun x => decide (¬ x = 0)) 2 <| o_goto 1
def bX8_put_1 (cal : ab_F) : ab_K := o_push (.int (-1000000001)) <| o_ret (some .int)
def bX8_put_2 (cal : ab_F) : ab_K := o_aload 0 <| o_getf 7 0 <| o_getf 3 5 <| o_iload 2 <| o_iald 0 <| o_push (.int (-1)) <| o_cmp (fun x y => decide (x = y)) 3 <| o_aload 0 <| o_getf 7 0 <| o_getf 3 5 <| o_iload 2 <| o_iald 0 <| o_iload 1 <| o_cmp (fun x y => decide (x = y)) 3 <| o_push (.int (-1000000002)) <| o_ret (some .int)
def bX8_put_3 (cal : ab_F) : ab_K := o_aload 0 <| o_getf 7 0 <| o_getf 3 3 <| o_iload 1 <| o_iald 0 <| o_istore 4 <| o_aload 0 <| o_getf 7 0 <| o_iload 1 <| o_iload 2 <| o_callV cal 45 2 3 <| o_aload 0 <| o_getf 7 0 <| o_getf 3 4 <| o_iload 1 <| o_iload 3 <| o_iast 0 (fun x => x) <| o_iload 4 <| o_ret (some .int)
def bX8_put (cal : ab_F) : List ab_K := [bX8_put_0 cal, bX8_put_1 cal, bX8_put_2 cal, bX8_put_3 cal]
set_option maxRecDepth 100000 in
theorem sX8_put_0 {G : ab_G} {xs : List Int32} {d : Nat} {cal : ab_F} (hcs : ab_CS G (ab_Z G xs) ab_Mf cal d) : ab_Sd G (ab_Z G xs) (d + 1) (ab_mY mX8_put pX8_put) 0 (bX8_put_0 cal) :=
  sn_aload_n dX8_put_0 rfl <| sn_iload_n dX8_put_1 rfl <| sq_callV mt_119 hcs dX8_put_2 rfl w_386 w_388 w_0 w_55 w_389 hy_119 hm_119 <| sn_if_eq (tg := 24) dX8_put_5 rfl rfl <| sn_iload_n dX8_put_8 rfl <| sq_callS mt_120 hcs dX8_put_9 w_398 w_399 w_55 w_400 hy_120 hm_120 <| sn_if_eq (tg := 24) dX8_put_12 rfl rfl <| sn_iload_n dX8_put_15 rfl <| sn_iconst dX8_put_16 rfl <| sn_iconst dX8_put_17 rfl <| sq_callS mt_123 hcs dX8_put_18 w_320 w_321 w_55 w_322 hy_123 hm_123 <| sn_if_ne (tg := 27) dX8_put_21 rfl rfl <| sn_next rfl
set_option maxRecDepth 100000 in
theorem sX8_put_1 {G : ab_G} {xs : List Int32} {d : Nat} {cal : ab_F} (hcs : ab_CS G (ab_Z G xs) ab_Mf cal d) : ab_Sd G (ab_Z G xs) (d + 1) (ab_mY mX8_put pX8_put) 24 (bX8_put_1 cal) :=
  sn_ldc dX8_put_24 w_323 <| sn_ret dX8_put_26 ab_ri_int
set_option maxRecDepth 100000 in
theorem sX8_put_2 {G : ab_G} {xs : List Int32} {d : Nat} {cal : ab_F} (hcs : ab_CS G (ab_Z G xs) ab_Mf cal d) : ab_Sd G (ab_Z G xs) (d + 1) (ab_mY mX8_put pX8_put) 27 (bX8_put_2 cal) :=
  sn_aload_n dX8_put_27 rfl <| sn_getf dX8_put_28 rfl hinX8 (by decide) w_285 <| sn_getf dX8_put_31 rfl hinX4 (by decide) w_105 <| sn_iload_n dX8_put_34 rfl <| sn_iald dX8_put_35 rfl <| sn_iconst dX8_put_36 rfl <| sn_cmp_eq (tg := 56) dX8_put_37 rfl rfl <| sn_aload_n dX8_put_40 rfl <| sn_getf dX8_put_41 rfl hinX8 (by decide) w_285 <| sn_getf dX8_put_44 rfl hinX4 (by decide) w_105 <| sn_iload_n dX8_put_47 rfl <| sn_iald dX8_put_48 rfl <| sn_iload_n dX8_put_49 rfl <| sn_cmp_eq (tg := 56) dX8_put_50 rfl rfl <| sn_ldc dX8_put_53 w_427 <| sn_ret dX8_put_55 ab_ri_int
set_option maxRecDepth 100000 in
theorem sX8_put_3 {G : ab_G} {xs : List Int32} {d : Nat} {cal : ab_F} (hcs : ab_CS G (ab_Z G xs) ab_Mf cal d) : ab_Sd G (ab_Z G xs) (d + 1) (ab_mY mX8_put pX8_put) 56 (bX8_put_3 cal) :=
  sn_aload_n dX8_put_56 rfl <| sn_getf dX8_put_57 rfl hinX8 (by decide) w_285 <| sn_getf dX8_put_60 rfl hinX4 (by decide) w_100 <| sn_iload_n dX8_put_63 rfl <| sn_iald dX8_put_64 rfl <| sn_istore dX8_put_65 (by decide) <| sn_aload_n dX8_put_67 rfl <| sn_getf dX8_put_68 rfl hinX8 (by decide) w_285 <| sn_iload_n dX8_put_71 rfl <| sn_iload_n dX8_put_72 rfl <| sq_callV mt_45 hcs dX8_put_73 rfl w_428 w_429 w_430 w_56 w_431 hy_45 hm_45 <| sn_aload_n dX8_put_76 rfl <| sn_getf dX8_put_77 rfl hinX8 (by decide) w_285 <| sn_getf dX8_put_80 rfl hinX4 (by decide) w_103 <| sn_iload_n dX8_put_83 rfl <| sn_iload_n dX8_put_84 rfl <| sn_iast dX8_put_85 rfl rfl <| sn_iload dX8_put_86 <| sn_ret dX8_put_88 ab_ri_int
theorem sX8_put {G : ab_G} {xs : List Int32} {d : Nat} {cal : ab_F} (hcs : ab_CS G (ab_Z G xs) ab_Mf cal d) : ab_BS G (ab_Z G xs) (d + 1) (ab_mY mX8_put pX8_put) pX8_put (bX8_put cal) := ⟨sX8_put_0 hcs, sX8_put_1 hcs, sX8_put_2 hcs, sX8_put_3 hcs, trivial⟩
theorem dgX8_box_0 : decode cX8_box 0 = .ok (.aload_n 0, 1) ∧ decode cX8_box 1 = .ok (.iload_n 1, 1) ∧ decode cX8_box 2 = .ok (.invokevirtual 74, 3) ∧ decode cX8_box 5 = .ok (.ifCond .ne 6, 3) ∧ decode cX8_box 8 = .ok (.ldc 64, 2) ∧ decode cX8_box 10 = .ok (.ireturn, 1) ∧ decode cX8_box 11 = .ok (.aload_n 0, 1) ∧ decode cX8_box 12 = .ok (.getfield 10, 3) ∧ decode cX8_box 15 = .ok (.getfield 87, 3) ∧ decode cX8_box 18 = .ok (.iload_n 1, 1) ∧ decode cX8_box 19 = .ok (.iaload, 1) ∧ decode cX8_box 20 = .ok (.istore_n 2, 1) ∧ decode cX8_box 21 = .ok (.aload_n 0, 1) ∧ decode cX8_box 22 = .ok (.getfield 10, 3) ∧ decode cX8_box 25 = .ok (.iload_n 1, 1) ∧ decode cX8_box 26 = .ok (.bipush 12, 2) := by decide +kernel
theorem dX8_box_0 : decode cX8_box 0 = .ok (.aload_n 0, 1) := dgX8_box_0.1
theorem dX8_box_1 : decode cX8_box 1 = .ok (.iload_n 1, 1) := dgX8_box_0.2.1
theorem dX8_box_2 : decode cX8_box 2 = .ok (.invokevirtual 74, 3) := dgX8_box_0.2.2.1
theorem dX8_box_5 : decode cX8_box 5 = .ok (.ifCond .ne 6, 3) := dgX8_box_0.2.2.2.1
theorem dX8_box_8 : decode cX8_box 8 = .ok (.ldc 64, 2) := dgX8_box_0.2.2.2.2.1
theorem dX8_box_10 : decode cX8_box 10 = .ok (.ireturn, 1) := dgX8_box_0.2.2.2.2.2.1
theorem dX8_box_11 : decode cX8_box 11 = .ok (.aload_n 0, 1) := dgX8_box_0.2.2.2.2.2.2.1
theorem dX8_box_12 : decode cX8_box 12 = .ok (.getfield 10, 3) := dgX8_box_0.2.2.2.2.2.2.2.1
theorem dX8_box_15 : decode cX8_box 15 = .ok (.getfield 87, 3) := dgX8_box_0.2.2.2.2.2.2.2.2.1
theorem dX8_box_18 : decode cX8_box 18 = .ok (.iload_n 1, 1) := dgX8_box_0.2.2.2.2.2.2.2.2.2.1
theorem dX8_box_19 : decode cX8_box 19 = .ok (.iaload, 1) := dgX8_box_0.2.2.2.2.2.2.2.2.2.2.1
theorem dX8_box_20 : decode cX8_box 20 = .ok (.istore_n 2, 1) := dgX8_box_0.2.2.2.2.2.2.2.2.2.2.2.1
theorem dX8_box_21 : decode cX8_box 21 = .ok (.aload_n 0, 1) := dgX8_box_0.2.2.2.2.2.2.2.2.2.2.2.2.1
theorem dX8_box_22 : decode cX8_box 22 = .ok (.getfield 10, 3) := dgX8_box_0.2.2.2.2.2.2.2.2.2.2.2.2.2.1
theorem dX8_box_25 : decode cX8_box 25 = .ok (.iload_n 1, 1) := dgX8_box_0.2.2.2.2.2.2.2.2.2.2.2.2.2.2.1
theorem dX8_box_26 : decode cX8_box 26 = .ok (.bipush 12, 2) := dgX8_box_0.2.2.2.2.2.2.2.2.2.2.2.2.2.2.2
theorem dgX8_box_1 : decode cX8_box 28 = .ok (.invokevirtual 121, 3) ∧ decode cX8_box 31 = .ok (.iload_n 2, 1) ∧ decode cX8_box 32 = .ok (.ireturn, 1) := by decide +kernel
theorem dX8_box_28 : decode cX8_box 28 = .ok (.invokevirtual 121, 3) := dgX8_box_1.1
theorem dX8_box_31 : decode cX8_box 31 = .ok (.iload_n 2, 1) := dgX8_box_1.2.1
theorem dX8_box_32 : decode cX8_box 32 = .ok (.ireturn, 1) := dgX8_box_1.2.2
abbrev pX8_box : List Nat := [0, 11]
def bX8_box_0 (cal : ab_F) : ab_K := o_aload 0 <| o_iload 1 <| o_callV cal 119 1 7 <| o_if (fun x => decide (¬ x = 0)) 1 <| o_push (.int (-1000000001)) <| o_ret (some .int)
def bX8_box_1 (cal : ab_F) : ab_K := o_aload 0 <| o_getf 7 0 <| o_getf 3 3 <| o_iload 1 <| o_iald 0 <| o_istore 2 <| o_aload 0 <| o_getf 7 0 <| o_iload 1 <| o_push (.int 12) <| o_callV cal 45 2 3 <| o_iload 2 <| o_ret (some .int)
def bX8_box (cal : ab_F) : List ab_K := [bX8_box_0 cal, bX8_box_1 cal]
set_option maxRecDepth 100000 in
theorem sX8_box_0 {G : ab_G} {xs : List Int32} {d : Nat} {cal : ab_F} (hcs : ab_CS G (ab_Z G xs) ab_Mf cal d) : ab_Sd G (ab_Z G xs) (d + 1) (ab_mY mX8_box pX8_box) 0 (bX8_box_0 cal) :=
  sn_aload_n dX8_box_0 rfl <| sn_iload_n dX8_box_1 rfl <| sq_callV mt_119 hcs dX8_box_2 rfl w_386 w_388 w_0 w_55 w_389 hy_119 hm_119 <| sn_if_ne (tg := 11) dX8_box_5 rfl rfl <| sn_ldc dX8_box_8 w_323 <| sn_ret dX8_box_10 ab_ri_int
set_option maxRecDepth 100000 in
theorem sX8_box_1 {G : ab_G} {xs : List Int32} {d : Nat} {cal : ab_F} (hcs : ab_CS G (ab_Z G xs) ab_Mf cal d) : ab_Sd G (ab_Z G xs) (d + 1) (ab_mY mX8_box pX8_box) 11 (bX8_box_1 cal) :=
  sn_aload_n dX8_box_11 rfl <| sn_getf dX8_box_12 rfl hinX8 (by decide) w_285 <| sn_getf dX8_box_15 rfl hinX4 (by decide) w_100 <| sn_iload_n dX8_box_18 rfl <| sn_iald dX8_box_19 rfl <| sn_istore_n dX8_box_20 rfl (by decide) <| sn_aload_n dX8_box_21 rfl <| sn_getf dX8_box_22 rfl hinX8 (by decide) w_285 <| sn_iload_n dX8_box_25 rfl <| sn_bipush dX8_box_26 rfl <| sq_callV mt_45 hcs dX8_box_28 rfl w_428 w_429 w_430 w_56 w_431 hy_45 hm_45 <| sn_iload_n dX8_box_31 rfl <| sn_ret dX8_box_32 ab_ri_int
theorem sX8_box {G : ab_G} {xs : List Int32} {d : Nat} {cal : ab_F} (hcs : ab_CS G (ab_Z G xs) ab_Mf cal d) : ab_BS G (ab_Z G xs) (d + 1) (ab_mY mX8_box pX8_box) pX8_box (bX8_box cal) := ⟨sX8_box_0 hcs, sX8_box_1 hcs, trivial⟩
theorem dgX8_want_0 : decode cX8_want 0 = .ok (.iload_n 1, 1) ∧ decode cX8_want 1 = .ok (.iconst 0, 1) ∧ decode cX8_want 2 = .ok (.bipush 23, 2) ∧ decode cX8_want 4 = .ok (.invokestatic 60, 3) ∧ decode cX8_want 7 = .ok (.ifCond .eq 13, 3) ∧ decode cX8_want 10 = .ok (.iload_n 2, 1) ∧ decode cX8_want 11 = .ok (.iconst 0, 1) ∧ decode cX8_want 12 = .ok (.bipush 99, 2) ∧ decode cX8_want 14 = .ok (.invokestatic 60, 3) ∧ decode cX8_want 17 = .ok (.ifCond .ne 6, 3) ∧ decode cX8_want 20 = .ok (.ldc 64, 2) ∧ decode cX8_want 22 = .ok (.ireturn, 1) ∧ decode cX8_want 23 = .ok (.aload_n 0, 1) ∧ decode cX8_want 24 = .ok (.getfield 10, 3) ∧ decode cX8_want 27 = .ok (.getfield 125, 3) ∧ decode cX8_want 30 = .ok (.iload_n 1, 1) := by decide +kernel
theorem dX8_want_0 : decode cX8_want 0 = .ok (.iload_n 1, 1) := dgX8_want_0.1
theorem dX8_want_1 : decode cX8_want 1 = .ok (.iconst 0, 1) := dgX8_want_0.2.1
theorem dX8_want_2 : decode cX8_want 2 = .ok (.bipush 23, 2) := dgX8_want_0.2.2.1
theorem dX8_want_4 : decode cX8_want 4 = .ok (.invokestatic 60, 3) := dgX8_want_0.2.2.2.1
theorem dX8_want_7 : decode cX8_want 7 = .ok (.ifCond .eq 13, 3) := dgX8_want_0.2.2.2.2.1
theorem dX8_want_10 : decode cX8_want 10 = .ok (.iload_n 2, 1) := dgX8_want_0.2.2.2.2.2.1
theorem dX8_want_11 : decode cX8_want 11 = .ok (.iconst 0, 1) := dgX8_want_0.2.2.2.2.2.2.1
theorem dX8_want_12 : decode cX8_want 12 = .ok (.bipush 99, 2) := dgX8_want_0.2.2.2.2.2.2.2.1
theorem dX8_want_14 : decode cX8_want 14 = .ok (.invokestatic 60, 3) := dgX8_want_0.2.2.2.2.2.2.2.2.1
theorem dX8_want_17 : decode cX8_want 17 = .ok (.ifCond .ne 6, 3) := dgX8_want_0.2.2.2.2.2.2.2.2.2.1
theorem dX8_want_20 : decode cX8_want 20 = .ok (.ldc 64, 2) := dgX8_want_0.2.2.2.2.2.2.2.2.2.2.1
theorem dX8_want_22 : decode cX8_want 22 = .ok (.ireturn, 1) := dgX8_want_0.2.2.2.2.2.2.2.2.2.2.2.1
theorem dX8_want_23 : decode cX8_want 23 = .ok (.aload_n 0, 1) := dgX8_want_0.2.2.2.2.2.2.2.2.2.2.2.2.1
theorem dX8_want_24 : decode cX8_want 24 = .ok (.getfield 10, 3) := dgX8_want_0.2.2.2.2.2.2.2.2.2.2.2.2.2.1
theorem dX8_want_27 : decode cX8_want 27 = .ok (.getfield 125, 3) := dgX8_want_0.2.2.2.2.2.2.2.2.2.2.2.2.2.2.1
theorem dX8_want_30 : decode cX8_want 30 = .ok (.iload_n 1, 1) := dgX8_want_0.2.2.2.2.2.2.2.2.2.2.2.2.2.2.2
theorem dgX8_want_1 : decode cX8_want 31 = .ok (.iaload, 1) ∧ decode cX8_want 32 = .ok (.istore_n 3, 1) ∧ decode cX8_want 33 = .ok (.aload_n 0, 1) ∧ decode cX8_want 34 = .ok (.getfield 10, 3) ∧ decode cX8_want 37 = .ok (.getfield 125, 3) ∧ decode cX8_want 40 = .ok (.iload_n 1, 1) ∧ decode cX8_want 41 = .ok (.iload_n 2, 1) ∧ decode cX8_want 42 = .ok (.iastore, 1) ∧ decode cX8_want 43 = .ok (.iload_n 3, 1) ∧ decode cX8_want 44 = .ok (.ireturn, 1) := by decide +kernel
theorem dX8_want_31 : decode cX8_want 31 = .ok (.iaload, 1) := dgX8_want_1.1
theorem dX8_want_32 : decode cX8_want 32 = .ok (.istore_n 3, 1) := dgX8_want_1.2.1
theorem dX8_want_33 : decode cX8_want 33 = .ok (.aload_n 0, 1) := dgX8_want_1.2.2.1
theorem dX8_want_34 : decode cX8_want 34 = .ok (.getfield 10, 3) := dgX8_want_1.2.2.2.1
theorem dX8_want_37 : decode cX8_want 37 = .ok (.getfield 125, 3) := dgX8_want_1.2.2.2.2.1
theorem dX8_want_40 : decode cX8_want 40 = .ok (.iload_n 1, 1) := dgX8_want_1.2.2.2.2.2.1
theorem dX8_want_41 : decode cX8_want 41 = .ok (.iload_n 2, 1) := dgX8_want_1.2.2.2.2.2.2.1
theorem dX8_want_42 : decode cX8_want 42 = .ok (.iastore, 1) := dgX8_want_1.2.2.2.2.2.2.2.1
theorem dX8_want_43 : decode cX8_want 43 = .ok (.iload_n 3, 1) := dgX8_want_1.2.2.2.2.2.2.2.2.1
theorem dX8_want_44 : decode cX8_want 44 = .ok (.ireturn, 1) := dgX8_want_1.2.2.2.2.2.2.2.2.2
abbrev pX8_want : List Nat := [0, 20, 23]
def bX8_want_0 (cal : ab_F) : ab_K := o_iload 1 <| o_push (.int 0) <| o_push (.int 23) <| o_callS cal 123 3 <| o_if (fun x => decide (x = 0)) 1 <| o_iload 2 <| o_push (.int 0) <| o_push (.int 99) <| o_callS cal 123 3 <| o_if (fun x => decide (¬ x = 0)) 2 <| o_goto 1
def bX8_want_1 (cal : ab_F) : ab_K := o_push (.int (-1000000001)) <| o_ret (some .int)
def bX8_want_2 (cal : ab_F) : ab_K := o_aload 0 <| o_getf 7 0 <| o_getf 3 6 <| o_iload 1 <| o_iald 0 <| o_istore 3 <| o_aload 0 <| o_getf 7 0 <| o_getf 3 6 <| o_iload 1 <| o_iload 2 <| o_iast 0 (fun x => x) <| o_iload 3 <| o_ret (some .int)
def bX8_want (cal : ab_F) : List ab_K := [bX8_want_0 cal, bX8_want_1 cal, bX8_want_2 cal]
set_option maxRecDepth 100000 in
theorem sX8_want_0 {G : ab_G} {xs : List Int32} {d : Nat} {cal : ab_F} (hcs : ab_CS G (ab_Z G xs) ab_Mf cal d) : ab_Sd G (ab_Z G xs) (d + 1) (ab_mY mX8_want pX8_want) 0 (bX8_want_0 cal) :=
  sn_iload_n dX8_want_0 rfl <| sn_iconst dX8_want_1 rfl <| sn_bipush dX8_want_2 rfl <| sq_callS mt_123 hcs dX8_want_4 w_320 w_321 w_55 w_322 hy_123 hm_123 <| sn_if_eq (tg := 20) dX8_want_7 rfl rfl <| sn_iload_n dX8_want_10 rfl <| sn_iconst dX8_want_11 rfl <| sn_bipush dX8_want_12 rfl <| sq_callS mt_123 hcs dX8_want_14 w_320 w_321 w_55 w_322 hy_123 hm_123 <| sn_if_ne (tg := 23) dX8_want_17 rfl rfl <| sn_next rfl
set_option maxRecDepth 100000 in
theorem sX8_want_1 {G : ab_G} {xs : List Int32} {d : Nat} {cal : ab_F} (hcs : ab_CS G (ab_Z G xs) ab_Mf cal d) : ab_Sd G (ab_Z G xs) (d + 1) (ab_mY mX8_want pX8_want) 20 (bX8_want_1 cal) :=
  sn_ldc dX8_want_20 w_323 <| sn_ret dX8_want_22 ab_ri_int
set_option maxRecDepth 100000 in
theorem sX8_want_2 {G : ab_G} {xs : List Int32} {d : Nat} {cal : ab_F} (hcs : ab_CS G (ab_Z G xs) ab_Mf cal d) : ab_Sd G (ab_Z G xs) (d + 1) (ab_mY mX8_want pX8_want) 23 (bX8_want_2 cal) :=
  sn_aload_n dX8_want_23 rfl <| sn_getf dX8_want_24 rfl hinX8 (by decide) w_285 <| sn_getf dX8_want_27 rfl hinX4 (by decide) w_107 <| sn_iload_n dX8_want_30 rfl <| sn_iald dX8_want_31 rfl <| sn_istore_n dX8_want_32 rfl (by decide) <| sn_aload_n dX8_want_33 rfl <| sn_getf dX8_want_34 rfl hinX8 (by decide) w_285 <| sn_getf dX8_want_37 rfl hinX4 (by decide) w_107 <| sn_iload_n dX8_want_40 rfl <| sn_iload_n dX8_want_41 rfl <| sn_iast dX8_want_42 rfl rfl <| sn_iload_n dX8_want_43 rfl <| sn_ret dX8_want_44 ab_ri_int
theorem sX8_want {G : ab_G} {xs : List Int32} {d : Nat} {cal : ab_F} (hcs : ab_CS G (ab_Z G xs) ab_Mf cal d) : ab_BS G (ab_Z G xs) (d + 1) (ab_mY mX8_want pX8_want) pX8_want (bX8_want cal) := ⟨sX8_want_0 hcs, sX8_want_1 hcs, sX8_want_2 hcs, trivial⟩
theorem dgX8_wind_0 : decode cX8_wind 0 = .ok (.iload_n 1, 1) ∧ decode cX8_wind 1 = .ok (.iconst 0, 1) ∧ decode cX8_wind 2 = .ok (.bipush 100, 2) ∧ decode cX8_wind 4 = .ok (.invokestatic 60, 3) ∧ decode cX8_wind 7 = .ok (.ifCond .ne 6, 3) ∧ decode cX8_wind 10 = .ok (.ldc 64, 2) ∧ decode cX8_wind 12 = .ok (.ireturn, 1) ∧ decode cX8_wind 13 = .ok (.aload_n 0, 1) ∧ decode cX8_wind 14 = .ok (.getfield 10, 3) ∧ decode cX8_wind 17 = .ok (.getfield 128, 3) ∧ decode cX8_wind 20 = .ok (.istore_n 2, 1) ∧ decode cX8_wind 21 = .ok (.aload_n 0, 1) ∧ decode cX8_wind 22 = .ok (.getfield 10, 3) ∧ decode cX8_wind 25 = .ok (.iload_n 1, 1) ∧ decode cX8_wind 26 = .ok (.putfield 128, 3) ∧ decode cX8_wind 29 = .ok (.iload_n 2, 1) := by decide +kernel
theorem dX8_wind_0 : decode cX8_wind 0 = .ok (.iload_n 1, 1) := dgX8_wind_0.1
theorem dX8_wind_1 : decode cX8_wind 1 = .ok (.iconst 0, 1) := dgX8_wind_0.2.1
theorem dX8_wind_2 : decode cX8_wind 2 = .ok (.bipush 100, 2) := dgX8_wind_0.2.2.1
theorem dX8_wind_4 : decode cX8_wind 4 = .ok (.invokestatic 60, 3) := dgX8_wind_0.2.2.2.1
theorem dX8_wind_7 : decode cX8_wind 7 = .ok (.ifCond .ne 6, 3) := dgX8_wind_0.2.2.2.2.1
theorem dX8_wind_10 : decode cX8_wind 10 = .ok (.ldc 64, 2) := dgX8_wind_0.2.2.2.2.2.1
theorem dX8_wind_12 : decode cX8_wind 12 = .ok (.ireturn, 1) := dgX8_wind_0.2.2.2.2.2.2.1
theorem dX8_wind_13 : decode cX8_wind 13 = .ok (.aload_n 0, 1) := dgX8_wind_0.2.2.2.2.2.2.2.1
theorem dX8_wind_14 : decode cX8_wind 14 = .ok (.getfield 10, 3) := dgX8_wind_0.2.2.2.2.2.2.2.2.1
theorem dX8_wind_17 : decode cX8_wind 17 = .ok (.getfield 128, 3) := dgX8_wind_0.2.2.2.2.2.2.2.2.2.1
theorem dX8_wind_20 : decode cX8_wind 20 = .ok (.istore_n 2, 1) := dgX8_wind_0.2.2.2.2.2.2.2.2.2.2.1
theorem dX8_wind_21 : decode cX8_wind 21 = .ok (.aload_n 0, 1) := dgX8_wind_0.2.2.2.2.2.2.2.2.2.2.2.1
theorem dX8_wind_22 : decode cX8_wind 22 = .ok (.getfield 10, 3) := dgX8_wind_0.2.2.2.2.2.2.2.2.2.2.2.2.1
theorem dX8_wind_25 : decode cX8_wind 25 = .ok (.iload_n 1, 1) := dgX8_wind_0.2.2.2.2.2.2.2.2.2.2.2.2.2.1
theorem dX8_wind_26 : decode cX8_wind 26 = .ok (.putfield 128, 3) := dgX8_wind_0.2.2.2.2.2.2.2.2.2.2.2.2.2.2.1
theorem dX8_wind_29 : decode cX8_wind 29 = .ok (.iload_n 2, 1) := dgX8_wind_0.2.2.2.2.2.2.2.2.2.2.2.2.2.2.2
theorem dX8_wind_30 : decode cX8_wind 30 = .ok (.ireturn, 1) := by decide +kernel
abbrev pX8_wind : List Nat := [0, 13]
def bX8_wind_0 (cal : ab_F) : ab_K := o_iload 1 <| o_push (.int 0) <| o_push (.int 100) <| o_callS cal 123 3 <| o_if (fun x => decide (¬ x = 0)) 1 <| o_push (.int (-1000000001)) <| o_ret (some .int)
def bX8_wind_1 (cal : ab_F) : ab_K := o_aload 0 <| o_getf 7 0 <| o_getf 3 12 <| o_istore 2 <| o_aload 0 <| o_getf 7 0 <| o_iload 1 <| o_putI 3 12 <| o_iload 2 <| o_ret (some .int)
def bX8_wind (cal : ab_F) : List ab_K := [bX8_wind_0 cal, bX8_wind_1 cal]
set_option maxRecDepth 100000 in
theorem sX8_wind_0 {G : ab_G} {xs : List Int32} {d : Nat} {cal : ab_F} (hcs : ab_CS G (ab_Z G xs) ab_Mf cal d) : ab_Sd G (ab_Z G xs) (d + 1) (ab_mY mX8_wind pX8_wind) 0 (bX8_wind_0 cal) :=
  sn_iload_n dX8_wind_0 rfl <| sn_iconst dX8_wind_1 rfl <| sn_bipush dX8_wind_2 rfl <| sq_callS mt_123 hcs dX8_wind_4 w_320 w_321 w_55 w_322 hy_123 hm_123 <| sn_if_ne (tg := 13) dX8_wind_7 rfl rfl <| sn_ldc dX8_wind_10 w_323 <| sn_ret dX8_wind_12 ab_ri_int
set_option maxRecDepth 100000 in
theorem sX8_wind_1 {G : ab_G} {xs : List Int32} {d : Nat} {cal : ab_F} (hcs : ab_CS G (ab_Z G xs) ab_Mf cal d) : ab_Sd G (ab_Z G xs) (d + 1) (ab_mY mX8_wind pX8_wind) 13 (bX8_wind_1 cal) :=
  sn_aload_n dX8_wind_13 rfl <| sn_getf dX8_wind_14 rfl hinX8 (by decide) w_285 <| sn_getf dX8_wind_17 rfl hinX4 (by decide) w_118 <| sn_istore_n dX8_wind_20 rfl (by decide) <| sn_aload_n dX8_wind_21 rfl <| sn_getf dX8_wind_22 rfl hinX8 (by decide) w_285 <| sn_iload_n dX8_wind_25 rfl <| sn_putI tyX4 tyX4_ok nmX4 dX8_wind_26 rfl hinX4 (by decide) w_118 (Or.inl rfl) (tyX4_ok 12 (by decide)) <| sn_iload_n dX8_wind_29 rfl <| sn_ret dX8_wind_30 ab_ri_int
theorem sX8_wind {G : ab_G} {xs : List Int32} {d : Nat} {cal : ab_F} (hcs : ab_CS G (ab_Z G xs) ab_Mf cal d) : ab_BS G (ab_Z G xs) (d + 1) (ab_mY mX8_wind pX8_wind) pX8_wind (bX8_wind cal) := ⟨sX8_wind_0 hcs, sX8_wind_1 hcs, trivial⟩
theorem dgX8_deal_0 : decode cX8_deal 0 = .ok (.iload_n 1, 1) ∧ decode cX8_deal 1 = .ok (.iconst 1, 1) ∧ decode cX8_deal 2 = .ok (.bipush 12, 2) ∧ decode cX8_deal 4 = .ok (.invokestatic 60, 3) ∧ decode cX8_deal 7 = .ok (.ifCond .ne 6, 3) ∧ decode cX8_deal 10 = .ok (.ldc 64, 2) ∧ decode cX8_deal 12 = .ok (.ireturn, 1) ∧ decode cX8_deal 13 = .ok (.iload_n 1, 1) ∧ decode cX8_deal 14 = .ok (.bipush 12, 2) ∧ decode cX8_deal 16 = .ok (.aload_n 0, 1) ∧ decode cX8_deal 17 = .ok (.getfield 10, 3) ∧ decode cX8_deal 20 = .ok (.getfield 65, 3) ∧ decode cX8_deal 23 = .ok (.isub, 1) ∧ decode cX8_deal 24 = .ok (.invokestatic 131, 3) ∧ decode cX8_deal 27 = .ok (.istore_n 2, 1) ∧ decode cX8_deal 28 = .ok (.iconst 0, 1) := by decide +kernel
theorem dX8_deal_0 : decode cX8_deal 0 = .ok (.iload_n 1, 1) := dgX8_deal_0.1
theorem dX8_deal_1 : decode cX8_deal 1 = .ok (.iconst 1, 1) := dgX8_deal_0.2.1
theorem dX8_deal_2 : decode cX8_deal 2 = .ok (.bipush 12, 2) := dgX8_deal_0.2.2.1
theorem dX8_deal_4 : decode cX8_deal 4 = .ok (.invokestatic 60, 3) := dgX8_deal_0.2.2.2.1
theorem dX8_deal_7 : decode cX8_deal 7 = .ok (.ifCond .ne 6, 3) := dgX8_deal_0.2.2.2.2.1
theorem dX8_deal_10 : decode cX8_deal 10 = .ok (.ldc 64, 2) := dgX8_deal_0.2.2.2.2.2.1
theorem dX8_deal_12 : decode cX8_deal 12 = .ok (.ireturn, 1) := dgX8_deal_0.2.2.2.2.2.2.1
theorem dX8_deal_13 : decode cX8_deal 13 = .ok (.iload_n 1, 1) := dgX8_deal_0.2.2.2.2.2.2.2.1
theorem dX8_deal_14 : decode cX8_deal 14 = .ok (.bipush 12, 2) := dgX8_deal_0.2.2.2.2.2.2.2.2.1
theorem dX8_deal_16 : decode cX8_deal 16 = .ok (.aload_n 0, 1) := dgX8_deal_0.2.2.2.2.2.2.2.2.2.1
theorem dX8_deal_17 : decode cX8_deal 17 = .ok (.getfield 10, 3) := dgX8_deal_0.2.2.2.2.2.2.2.2.2.2.1
theorem dX8_deal_20 : decode cX8_deal 20 = .ok (.getfield 65, 3) := dgX8_deal_0.2.2.2.2.2.2.2.2.2.2.2.1
theorem dX8_deal_23 : decode cX8_deal 23 = .ok (.isub, 1) := dgX8_deal_0.2.2.2.2.2.2.2.2.2.2.2.2.1
theorem dX8_deal_24 : decode cX8_deal 24 = .ok (.invokestatic 131, 3) := dgX8_deal_0.2.2.2.2.2.2.2.2.2.2.2.2.2.1
theorem dX8_deal_27 : decode cX8_deal 27 = .ok (.istore_n 2, 1) := dgX8_deal_0.2.2.2.2.2.2.2.2.2.2.2.2.2.2.1
theorem dX8_deal_28 : decode cX8_deal 28 = .ok (.iconst 0, 1) := dgX8_deal_0.2.2.2.2.2.2.2.2.2.2.2.2.2.2.2
theorem dgX8_deal_1 : decode cX8_deal 29 = .ok (.istore_n 3, 1) ∧ decode cX8_deal 30 = .ok (.iload_n 3, 1) ∧ decode cX8_deal 31 = .ok (.iload_n 2, 1) ∧ decode cX8_deal 32 = .ok (.if_icmp .ge 16, 3) ∧ decode cX8_deal 35 = .ok (.aload_n 0, 1) ∧ decode cX8_deal 36 = .ok (.getfield 10, 3) ∧ decode cX8_deal 39 = .ok (.invokevirtual 137, 3) ∧ decode cX8_deal 42 = .ok (.iinc 3 1, 3) ∧ decode cX8_deal 45 = .ok (.goto (-15), 3) ∧ decode cX8_deal 48 = .ok (.iload_n 2, 1) ∧ decode cX8_deal 49 = .ok (.ireturn, 1) := by decide +kernel
theorem dX8_deal_29 : decode cX8_deal 29 = .ok (.istore_n 3, 1) := dgX8_deal_1.1
theorem dX8_deal_30 : decode cX8_deal 30 = .ok (.iload_n 3, 1) := dgX8_deal_1.2.1
theorem dX8_deal_31 : decode cX8_deal 31 = .ok (.iload_n 2, 1) := dgX8_deal_1.2.2.1
theorem dX8_deal_32 : decode cX8_deal 32 = .ok (.if_icmp .ge 16, 3) := dgX8_deal_1.2.2.2.1
theorem dX8_deal_35 : decode cX8_deal 35 = .ok (.aload_n 0, 1) := dgX8_deal_1.2.2.2.2.1
theorem dX8_deal_36 : decode cX8_deal 36 = .ok (.getfield 10, 3) := dgX8_deal_1.2.2.2.2.2.1
theorem dX8_deal_39 : decode cX8_deal 39 = .ok (.invokevirtual 137, 3) := dgX8_deal_1.2.2.2.2.2.2.1
theorem dX8_deal_42 : decode cX8_deal 42 = .ok (.iinc 3 1, 3) := dgX8_deal_1.2.2.2.2.2.2.2.1
theorem dX8_deal_45 : decode cX8_deal 45 = .ok (.goto (-15), 3) := dgX8_deal_1.2.2.2.2.2.2.2.2.1
theorem dX8_deal_48 : decode cX8_deal 48 = .ok (.iload_n 2, 1) := dgX8_deal_1.2.2.2.2.2.2.2.2.2.1
theorem dX8_deal_49 : decode cX8_deal 49 = .ok (.ireturn, 1) := dgX8_deal_1.2.2.2.2.2.2.2.2.2.2
abbrev pX8_deal : List Nat := [0, 13, 30, 48]
def bX8_deal_0 (cal : ab_F) : ab_K := o_iload 1 <| o_push (.int 1) <| o_push (.int 12) <| o_callS cal 123 3 <| o_if (fun x => decide (¬ x = 0)) 1 <| o_push (.int (-1000000001)) <| o_ret (some .int)
def bX8_deal_1 (cal : ab_F) : ab_K := o_iload 1 <| o_push (.int 12) <| o_aload 0 <| o_getf 7 0 <| o_getf 3 10 <| o_bin (fun x y => x - y) <| o_m2 (fun x y => if y < x then y else x) <| o_istore 2 <| o_push (.int 0) <| o_istore 3 <| o_goto 2
def bX8_deal_2 (cal : ab_F) : ab_K := o_iload 3 <| o_iload 2 <| o_cmp (fun x y => decide (y ≤ x)) 3 <| o_aload 0 <| o_getf 7 0 <| o_callV cal 32 0 3 <| o_iinc 3 1 <| o_goto 2
def bX8_deal_3 (cal : ab_F) : ab_K := o_iload 2 <| o_ret (some .int)
def bX8_deal (cal : ab_F) : List ab_K := [bX8_deal_0 cal, bX8_deal_1 cal, bX8_deal_2 cal, bX8_deal_3 cal]
set_option maxRecDepth 100000 in
theorem sX8_deal_0 {G : ab_G} {xs : List Int32} {d : Nat} {cal : ab_F} (hcs : ab_CS G (ab_Z G xs) ab_Mf cal d) : ab_Sd G (ab_Z G xs) (d + 1) (ab_mY mX8_deal pX8_deal) 0 (bX8_deal_0 cal) :=
  sn_iload_n dX8_deal_0 rfl <| sn_iconst dX8_deal_1 rfl <| sn_bipush dX8_deal_2 rfl <| sq_callS mt_123 hcs dX8_deal_4 w_320 w_321 w_55 w_322 hy_123 hm_123 <| sn_if_ne (tg := 13) dX8_deal_7 rfl rfl <| sn_ldc dX8_deal_10 w_323 <| sn_ret dX8_deal_12 ab_ri_int
set_option maxRecDepth 100000 in
theorem sX8_deal_1 {G : ab_G} {xs : List Int32} {d : Nat} {cal : ab_F} (hcs : ab_CS G (ab_Z G xs) ab_Mf cal d) : ab_Sd G (ab_Z G xs) (d + 1) (ab_mY mX8_deal pX8_deal) 13 (bX8_deal_1 cal) :=
  sn_iload_n dX8_deal_13 rfl <| sn_bipush dX8_deal_14 rfl <| sn_aload_n dX8_deal_16 rfl <| sn_getf dX8_deal_17 rfl hinX8 (by decide) w_285 <| sn_getf dX8_deal_20 rfl hinX4 (by decide) w_112 <| sn_isub dX8_deal_23 <| sn_mmin (Nat.le_add_left 1 _) rfl dX8_deal_24 w_371 w_372 w_66 w_373 <| sn_istore_n dX8_deal_27 rfl (by decide) <| sn_iconst dX8_deal_28 rfl <| sn_istore_n dX8_deal_29 rfl (by decide) <| sn_next rfl
set_option maxRecDepth 100000 in
theorem sX8_deal_2 {G : ab_G} {xs : List Int32} {d : Nat} {cal : ab_F} (hcs : ab_CS G (ab_Z G xs) ab_Mf cal d) : ab_Sd G (ab_Z G xs) (d + 1) (ab_mY mX8_deal pX8_deal) 30 (bX8_deal_2 cal) :=
  sn_iload_n dX8_deal_30 rfl <| sn_iload_n dX8_deal_31 rfl <| sn_cmp_ge (tg := 48) dX8_deal_32 rfl rfl <| sn_aload_n dX8_deal_35 rfl <| sn_getf dX8_deal_36 rfl hinX8 (by decide) w_285 <| sq_callV mt_32 hcs dX8_deal_39 rfl w_452 w_453 w_454 w_56 w_455 hy_32 hm_32 <| sn_iinc dX8_deal_42 rfl (by decide) <| sn_goto (tg := 30) dX8_deal_45 rfl rfl
set_option maxRecDepth 100000 in
theorem sX8_deal_3 {G : ab_G} {xs : List Int32} {d : Nat} {cal : ab_F} (hcs : ab_CS G (ab_Z G xs) ab_Mf cal d) : ab_Sd G (ab_Z G xs) (d + 1) (ab_mY mX8_deal pX8_deal) 48 (bX8_deal_3 cal) :=
  sn_iload_n dX8_deal_48 rfl <| sn_ret dX8_deal_49 ab_ri_int
theorem sX8_deal {G : ab_G} {xs : List Int32} {d : Nat} {cal : ab_F} (hcs : ab_CS G (ab_Z G xs) ab_Mf cal d) : ab_BS G (ab_Z G xs) (d + 1) (ab_mY mX8_deal pX8_deal) pX8_deal (bX8_deal cal) := ⟨sX8_deal_0 hcs, sX8_deal_1 hcs, sX8_deal_2 hcs, sX8_deal_3 hcs, trivial⟩
theorem dgX8_seed_0 : decode cX8_seed 0 = .ok (.aload_n 0, 1) ∧ decode cX8_seed 1 = .ok (.getfield 10, 3) ∧ decode cX8_seed 4 = .ok (.getfield 140, 3) ∧ decode cX8_seed 7 = .ok (.istore_n 2, 1) ∧ decode cX8_seed 8 = .ok (.aload_n 0, 1) ∧ decode cX8_seed 9 = .ok (.getfield 10, 3) ∧ decode cX8_seed 12 = .ok (.iload_n 1, 1) ∧ decode cX8_seed 13 = .ok (.putfield 140, 3) ∧ decode cX8_seed 16 = .ok (.iload_n 2, 1) ∧ decode cX8_seed 17 = .ok (.ireturn, 1) := by decide +kernel
theorem dX8_seed_0 : decode cX8_seed 0 = .ok (.aload_n 0, 1) := dgX8_seed_0.1
theorem dX8_seed_1 : decode cX8_seed 1 = .ok (.getfield 10, 3) := dgX8_seed_0.2.1
theorem dX8_seed_4 : decode cX8_seed 4 = .ok (.getfield 140, 3) := dgX8_seed_0.2.2.1
theorem dX8_seed_7 : decode cX8_seed 7 = .ok (.istore_n 2, 1) := dgX8_seed_0.2.2.2.1
theorem dX8_seed_8 : decode cX8_seed 8 = .ok (.aload_n 0, 1) := dgX8_seed_0.2.2.2.2.1
theorem dX8_seed_9 : decode cX8_seed 9 = .ok (.getfield 10, 3) := dgX8_seed_0.2.2.2.2.2.1
theorem dX8_seed_12 : decode cX8_seed 12 = .ok (.iload_n 1, 1) := dgX8_seed_0.2.2.2.2.2.2.1
theorem dX8_seed_13 : decode cX8_seed 13 = .ok (.putfield 140, 3) := dgX8_seed_0.2.2.2.2.2.2.2.1
theorem dX8_seed_16 : decode cX8_seed 16 = .ok (.iload_n 2, 1) := dgX8_seed_0.2.2.2.2.2.2.2.2.1
theorem dX8_seed_17 : decode cX8_seed 17 = .ok (.ireturn, 1) := dgX8_seed_0.2.2.2.2.2.2.2.2.2
abbrev pX8_seed : List Nat := [0]
def bX8_seed_0 (cal : ab_F) : ab_K := o_aload 0 <| o_getf 7 0 <| o_getf 3 14 <| o_istore 2 <| o_aload 0 <| o_getf 7 0 <| o_iload 1 <| o_putI 3 14 <| o_iload 2 <| o_ret (some .int)
def bX8_seed (cal : ab_F) : List ab_K := [bX8_seed_0 cal]
set_option maxRecDepth 100000 in
theorem sX8_seed_0 {G : ab_G} {xs : List Int32} {d : Nat} {cal : ab_F} (hcs : ab_CS G (ab_Z G xs) ab_Mf cal d) : ab_Sd G (ab_Z G xs) (d + 1) (ab_mY mX8_seed pX8_seed) 0 (bX8_seed_0 cal) :=
  sn_aload_n dX8_seed_0 rfl <| sn_getf dX8_seed_1 rfl hinX8 (by decide) w_285 <| sn_getf dX8_seed_4 rfl hinX4 (by decide) w_122 <| sn_istore_n dX8_seed_7 rfl (by decide) <| sn_aload_n dX8_seed_8 rfl <| sn_getf dX8_seed_9 rfl hinX8 (by decide) w_285 <| sn_iload_n dX8_seed_12 rfl <| sn_putI tyX4 tyX4_ok nmX4 dX8_seed_13 rfl hinX4 (by decide) w_122 (Or.inl rfl) (tyX4_ok 14 (by decide)) <| sn_iload_n dX8_seed_16 rfl <| sn_ret dX8_seed_17 ab_ri_int
theorem sX8_seed {G : ab_G} {xs : List Int32} {d : Nat} {cal : ab_F} (hcs : ab_CS G (ab_Z G xs) ab_Mf cal d) : ab_BS G (ab_Z G xs) (d + 1) (ab_mY mX8_seed pX8_seed) pX8_seed (bX8_seed cal) := ⟨sX8_seed_0 hcs, trivial⟩
theorem dgX8_days_0 : decode cX8_days 0 = .ok (.iload_n 1, 1) ∧ decode cX8_days 1 = .ok (.iconst 1, 1) ∧ decode cX8_days 2 = .ok (.bipush 100, 2) ∧ decode cX8_days 4 = .ok (.invokestatic 60, 3) ∧ decode cX8_days 7 = .ok (.ifCond .ne 6, 3) ∧ decode cX8_days 10 = .ok (.ldc 64, 2) ∧ decode cX8_days 12 = .ok (.ireturn, 1) ∧ decode cX8_days 13 = .ok (.aload_n 0, 1) ∧ decode cX8_days 14 = .ok (.getfield 10, 3) ∧ decode cX8_days 17 = .ok (.invokevirtual 143, 3) ∧ decode cX8_days 20 = .ok (.istore_n 2, 1) ∧ decode cX8_days 21 = .ok (.aload_n 0, 1) ∧ decode cX8_days 22 = .ok (.getfield 10, 3) ∧ decode cX8_days 25 = .ok (.iload_n 1, 1) ∧ decode cX8_days 26 = .ok (.sipush 9999, 3) ∧ decode cX8_days 29 = .ok (.aload_n 0, 1) := by decide +kernel
theorem dX8_days_0 : decode cX8_days 0 = .ok (.iload_n 1, 1) := dgX8_days_0.1
theorem dX8_days_1 : decode cX8_days 1 = .ok (.iconst 1, 1) := dgX8_days_0.2.1
theorem dX8_days_2 : decode cX8_days 2 = .ok (.bipush 100, 2) := dgX8_days_0.2.2.1
theorem dX8_days_4 : decode cX8_days 4 = .ok (.invokestatic 60, 3) := dgX8_days_0.2.2.2.1
theorem dX8_days_7 : decode cX8_days 7 = .ok (.ifCond .ne 6, 3) := dgX8_days_0.2.2.2.2.1
theorem dX8_days_10 : decode cX8_days 10 = .ok (.ldc 64, 2) := dgX8_days_0.2.2.2.2.2.1
theorem dX8_days_12 : decode cX8_days 12 = .ok (.ireturn, 1) := dgX8_days_0.2.2.2.2.2.2.1
theorem dX8_days_13 : decode cX8_days 13 = .ok (.aload_n 0, 1) := dgX8_days_0.2.2.2.2.2.2.2.1
theorem dX8_days_14 : decode cX8_days 14 = .ok (.getfield 10, 3) := dgX8_days_0.2.2.2.2.2.2.2.2.1
theorem dX8_days_17 : decode cX8_days 17 = .ok (.invokevirtual 143, 3) := dgX8_days_0.2.2.2.2.2.2.2.2.2.1
theorem dX8_days_20 : decode cX8_days 20 = .ok (.istore_n 2, 1) := dgX8_days_0.2.2.2.2.2.2.2.2.2.2.1
theorem dX8_days_21 : decode cX8_days 21 = .ok (.aload_n 0, 1) := dgX8_days_0.2.2.2.2.2.2.2.2.2.2.2.1
theorem dX8_days_22 : decode cX8_days 22 = .ok (.getfield 10, 3) := dgX8_days_0.2.2.2.2.2.2.2.2.2.2.2.2.1
theorem dX8_days_25 : decode cX8_days 25 = .ok (.iload_n 1, 1) := dgX8_days_0.2.2.2.2.2.2.2.2.2.2.2.2.2.1
theorem dX8_days_26 : decode cX8_days 26 = .ok (.sipush 9999, 3) := dgX8_days_0.2.2.2.2.2.2.2.2.2.2.2.2.2.2.1
theorem dX8_days_29 : decode cX8_days 29 = .ok (.aload_n 0, 1) := dgX8_days_0.2.2.2.2.2.2.2.2.2.2.2.2.2.2.2
theorem dgX8_days_1 : decode cX8_days 30 = .ok (.getfield 10, 3) ∧ decode cX8_days 33 = .ok (.getfield 147, 3) ∧ decode cX8_days 36 = .ok (.isub, 1) ∧ decode cX8_days 37 = .ok (.invokestatic 131, 3) ∧ decode cX8_days 40 = .ok (.invokevirtual 150, 3) ∧ decode cX8_days 43 = .ok (.aload_n 0, 1) ∧ decode cX8_days 44 = .ok (.getfield 10, 3) ∧ decode cX8_days 47 = .ok (.invokevirtual 143, 3) ∧ decode cX8_days 50 = .ok (.iload_n 2, 1) ∧ decode cX8_days 51 = .ok (.isub, 1) ∧ decode cX8_days 52 = .ok (.ireturn, 1) := by decide +kernel
theorem dX8_days_30 : decode cX8_days 30 = .ok (.getfield 10, 3) := dgX8_days_1.1
theorem dX8_days_33 : decode cX8_days 33 = .ok (.getfield 147, 3) := dgX8_days_1.2.1
theorem dX8_days_36 : decode cX8_days 36 = .ok (.isub, 1) := dgX8_days_1.2.2.1
theorem dX8_days_37 : decode cX8_days 37 = .ok (.invokestatic 131, 3) := dgX8_days_1.2.2.2.1
theorem dX8_days_40 : decode cX8_days 40 = .ok (.invokevirtual 150, 3) := dgX8_days_1.2.2.2.2.1
theorem dX8_days_43 : decode cX8_days 43 = .ok (.aload_n 0, 1) := dgX8_days_1.2.2.2.2.2.1
theorem dX8_days_44 : decode cX8_days 44 = .ok (.getfield 10, 3) := dgX8_days_1.2.2.2.2.2.2.1
theorem dX8_days_47 : decode cX8_days 47 = .ok (.invokevirtual 143, 3) := dgX8_days_1.2.2.2.2.2.2.2.1
theorem dX8_days_50 : decode cX8_days 50 = .ok (.iload_n 2, 1) := dgX8_days_1.2.2.2.2.2.2.2.2.1
theorem dX8_days_51 : decode cX8_days 51 = .ok (.isub, 1) := dgX8_days_1.2.2.2.2.2.2.2.2.2.1
theorem dX8_days_52 : decode cX8_days 52 = .ok (.ireturn, 1) := dgX8_days_1.2.2.2.2.2.2.2.2.2.2
abbrev pX8_days : List Nat := [0, 13]
def bX8_days_0 (cal : ab_F) : ab_K := o_iload 1 <| o_push (.int 1) <| o_push (.int 100) <| o_callS cal 123 3 <| o_if (fun x => decide (¬ x = 0)) 1 <| o_push (.int (-1000000001)) <| o_ret (some .int)
def bX8_days_1 (cal : ab_F) : ab_K := o_aload 0 <| o_getf 7 0 <| o_callV cal 49 0 3 <| o_istore 2 <| o_aload 0 <| o_getf 7 0 <| o_iload 1 <| o_push (.int 9999) <| o_aload 0 <| o_getf 7 0 <| o_getf 3 13 <| o_bin (fun x y => x - y) <| o_m2 (fun x y => if y < x then y else x) <| o_callV cal 51 1 3 <| o_aload 0 <| o_getf 7 0 <| o_callV cal 49 0 3 <| o_iload 2 <| o_bin (fun x y => x - y) <| o_ret (some .int)
def bX8_days (cal : ab_F) : List ab_K := [bX8_days_0 cal, bX8_days_1 cal]
set_option maxRecDepth 100000 in
theorem sX8_days_0 {G : ab_G} {xs : List Int32} {d : Nat} {cal : ab_F} (hcs : ab_CS G (ab_Z G xs) ab_Mf cal d) : ab_Sd G (ab_Z G xs) (d + 1) (ab_mY mX8_days pX8_days) 0 (bX8_days_0 cal) :=
  sn_iload_n dX8_days_0 rfl <| sn_iconst dX8_days_1 rfl <| sn_bipush dX8_days_2 rfl <| sq_callS mt_123 hcs dX8_days_4 w_320 w_321 w_55 w_322 hy_123 hm_123 <| sn_if_ne (tg := 13) dX8_days_7 rfl rfl <| sn_ldc dX8_days_10 w_323 <| sn_ret dX8_days_12 ab_ri_int
set_option maxRecDepth 100000 in
theorem sX8_days_1 {G : ab_G} {xs : List Int32} {d : Nat} {cal : ab_F} (hcs : ab_CS G (ab_Z G xs) ab_Mf cal d) : ab_Sd G (ab_Z G xs) (d + 1) (ab_mY mX8_days pX8_days) 13 (bX8_days_1 cal) :=
  sn_aload_n dX8_days_13 rfl <| sn_getf dX8_days_14 rfl hinX8 (by decide) w_285 <| sq_callV mt_49 hcs dX8_days_17 rfl w_470 w_471 w_472 w_56 w_473 hy_49 hm_49 <| sn_istore_n dX8_days_20 rfl (by decide) <| sn_aload_n dX8_days_21 rfl <| sn_getf dX8_days_22 rfl hinX8 (by decide) w_285 <| sn_iload_n dX8_days_25 rfl <| sn_sipush dX8_days_26 rfl <| sn_aload_n dX8_days_29 rfl <| sn_getf dX8_days_30 rfl hinX8 (by decide) w_285 <| sn_getf dX8_days_33 rfl hinX4 (by decide) w_120 <| sn_isub dX8_days_36 <| sn_mmin (Nat.le_add_left 1 _) rfl dX8_days_37 w_371 w_372 w_66 w_373 <| sq_callV mt_51 hcs dX8_days_40 rfl w_484 w_485 w_486 w_56 w_487 hy_51 hm_51 <| sn_aload_n dX8_days_43 rfl <| sn_getf dX8_days_44 rfl hinX8 (by decide) w_285 <| sq_callV mt_49 hcs dX8_days_47 rfl w_470 w_471 w_472 w_56 w_473 hy_49 hm_49 <| sn_iload_n dX8_days_50 rfl <| sn_isub dX8_days_51 <| sn_ret dX8_days_52 ab_ri_int
theorem sX8_days {G : ab_G} {xs : List Int32} {d : Nat} {cal : ab_F} (hcs : ab_CS G (ab_Z G xs) ab_Mf cal d) : ab_BS G (ab_Z G xs) (d + 1) (ab_mY mX8_days pX8_days) pX8_days (bX8_days cal) := ⟨sX8_days_0 hcs, sX8_days_1 hcs, trivial⟩
theorem dgX8_king_0 : decode cX8_king 0 = .ok (.iload_n 1, 1) ∧ decode cX8_king 1 = .ok (.tableswitch 63 0 3 #[31, 39, 47, 55], 31) ∧ decode cX8_king 32 = .ok (.aload_n 0, 1) ∧ decode cX8_king 33 = .ok (.getfield 10, 3) ∧ decode cX8_king 36 = .ok (.invokevirtual 153, 3) ∧ decode cX8_king 39 = .ok (.ireturn, 1) ∧ decode cX8_king 40 = .ok (.aload_n 0, 1) ∧ decode cX8_king 41 = .ok (.getfield 10, 3) ∧ decode cX8_king 44 = .ok (.invokevirtual 156, 3) ∧ decode cX8_king 47 = .ok (.ireturn, 1) ∧ decode cX8_king 48 = .ok (.aload_n 0, 1) ∧ decode cX8_king 49 = .ok (.getfield 10, 3) ∧ decode cX8_king 52 = .ok (.invokevirtual 143, 3) ∧ decode cX8_king 55 = .ok (.ireturn, 1) ∧ decode cX8_king 56 = .ok (.aload_n 0, 1) ∧ decode cX8_king 57 = .ok (.getfield 10, 3) := by decide +kernel
theorem dX8_king_0 : decode cX8_king 0 = .ok (.iload_n 1, 1) := dgX8_king_0.1
theorem dX8_king_1 : decode cX8_king 1 = .ok (.tableswitch 63 0 3 #[31, 39, 47, 55], 31) := dgX8_king_0.2.1
theorem dX8_king_32 : decode cX8_king 32 = .ok (.aload_n 0, 1) := dgX8_king_0.2.2.1
theorem dX8_king_33 : decode cX8_king 33 = .ok (.getfield 10, 3) := dgX8_king_0.2.2.2.1
theorem dX8_king_36 : decode cX8_king 36 = .ok (.invokevirtual 153, 3) := dgX8_king_0.2.2.2.2.1
theorem dX8_king_39 : decode cX8_king 39 = .ok (.ireturn, 1) := dgX8_king_0.2.2.2.2.2.1
theorem dX8_king_40 : decode cX8_king 40 = .ok (.aload_n 0, 1) := dgX8_king_0.2.2.2.2.2.2.1
theorem dX8_king_41 : decode cX8_king 41 = .ok (.getfield 10, 3) := dgX8_king_0.2.2.2.2.2.2.2.1
theorem dX8_king_44 : decode cX8_king 44 = .ok (.invokevirtual 156, 3) := dgX8_king_0.2.2.2.2.2.2.2.2.1
theorem dX8_king_47 : decode cX8_king 47 = .ok (.ireturn, 1) := dgX8_king_0.2.2.2.2.2.2.2.2.2.1
theorem dX8_king_48 : decode cX8_king 48 = .ok (.aload_n 0, 1) := dgX8_king_0.2.2.2.2.2.2.2.2.2.2.1
theorem dX8_king_49 : decode cX8_king 49 = .ok (.getfield 10, 3) := dgX8_king_0.2.2.2.2.2.2.2.2.2.2.2.1
theorem dX8_king_52 : decode cX8_king 52 = .ok (.invokevirtual 143, 3) := dgX8_king_0.2.2.2.2.2.2.2.2.2.2.2.2.1
theorem dX8_king_55 : decode cX8_king 55 = .ok (.ireturn, 1) := dgX8_king_0.2.2.2.2.2.2.2.2.2.2.2.2.2.1
theorem dX8_king_56 : decode cX8_king 56 = .ok (.aload_n 0, 1) := dgX8_king_0.2.2.2.2.2.2.2.2.2.2.2.2.2.2.1
theorem dX8_king_57 : decode cX8_king 57 = .ok (.getfield 10, 3) := dgX8_king_0.2.2.2.2.2.2.2.2.2.2.2.2.2.2.2
theorem dgX8_king_1 : decode cX8_king 60 = .ok (.invokevirtual 159, 3) ∧ decode cX8_king 63 = .ok (.ireturn, 1) ∧ decode cX8_king 64 = .ok (.ldc 64, 2) ∧ decode cX8_king 66 = .ok (.ireturn, 1) := by decide +kernel
theorem dX8_king_60 : decode cX8_king 60 = .ok (.invokevirtual 159, 3) := dgX8_king_1.1
theorem dX8_king_63 : decode cX8_king 63 = .ok (.ireturn, 1) := dgX8_king_1.2.1
theorem dX8_king_64 : decode cX8_king 64 = .ok (.ldc 64, 2) := dgX8_king_1.2.2.1
theorem dX8_king_66 : decode cX8_king 66 = .ok (.ireturn, 1) := dgX8_king_1.2.2.2
abbrev pX8_king : List Nat := [0, 32, 40, 48, 56, 64]
def bX8_king_0 (cal : ab_F) : ab_K := o_iload 1 <| o_sw (ab_tsw 0 [1, 2, 3, 4] 5)
def bX8_king_1 (cal : ab_F) : ab_K := o_aload 0 <| o_getf 7 0 <| o_callV cal 46 0 3 <| o_ret (some .int)
def bX8_king_2 (cal : ab_F) : ab_K := o_aload 0 <| o_getf 7 0 <| o_callV cal 47 0 3 <| o_ret (some .int)
def bX8_king_3 (cal : ab_F) : ab_K := o_aload 0 <| o_getf 7 0 <| o_callV cal 49 0 3 <| o_ret (some .int)
def bX8_king_4 (cal : ab_F) : ab_K := o_aload 0 <| o_getf 7 0 <| o_callV cal 50 0 3 <| o_ret (some .int)
def bX8_king_5 (cal : ab_F) : ab_K := o_push (.int (-1000000001)) <| o_ret (some .int)
def bX8_king (cal : ab_F) : List ab_K := [bX8_king_0 cal, bX8_king_1 cal, bX8_king_2 cal, bX8_king_3 cal, bX8_king_4 cal, bX8_king_5 cal]
set_option maxRecDepth 100000 in
theorem sX8_king_0 {G : ab_G} {xs : List Int32} {d : Nat} {cal : ab_F} (hcs : ab_CS G (ab_Z G xs) ab_Mf cal d) : ab_Sd G (ab_Z G xs) (d + 1) (ab_mY mX8_king pX8_king) 0 (bX8_king_0 cal) :=
  sn_iload_n dX8_king_0 rfl <| sn_tsw dX8_king_1 rfl rfl rfl
set_option maxRecDepth 100000 in
theorem sX8_king_1 {G : ab_G} {xs : List Int32} {d : Nat} {cal : ab_F} (hcs : ab_CS G (ab_Z G xs) ab_Mf cal d) : ab_Sd G (ab_Z G xs) (d + 1) (ab_mY mX8_king pX8_king) 32 (bX8_king_1 cal) :=
  sn_aload_n dX8_king_32 rfl <| sn_getf dX8_king_33 rfl hinX8 (by decide) w_285 <| sq_callV mt_46 hcs dX8_king_36 rfl w_510 w_511 w_512 w_56 w_513 hy_46 hm_46 <| sn_ret dX8_king_39 ab_ri_int
set_option maxRecDepth 100000 in
theorem sX8_king_2 {G : ab_G} {xs : List Int32} {d : Nat} {cal : ab_F} (hcs : ab_CS G (ab_Z G xs) ab_Mf cal d) : ab_Sd G (ab_Z G xs) (d + 1) (ab_mY mX8_king pX8_king) 40 (bX8_king_2 cal) :=
  sn_aload_n dX8_king_40 rfl <| sn_getf dX8_king_41 rfl hinX8 (by decide) w_285 <| sq_callV mt_47 hcs dX8_king_44 rfl w_514 w_515 w_516 w_56 w_517 hy_47 hm_47 <| sn_ret dX8_king_47 ab_ri_int
set_option maxRecDepth 100000 in
theorem sX8_king_3 {G : ab_G} {xs : List Int32} {d : Nat} {cal : ab_F} (hcs : ab_CS G (ab_Z G xs) ab_Mf cal d) : ab_Sd G (ab_Z G xs) (d + 1) (ab_mY mX8_king pX8_king) 48 (bX8_king_3 cal) :=
  sn_aload_n dX8_king_48 rfl <| sn_getf dX8_king_49 rfl hinX8 (by decide) w_285 <| sq_callV mt_49 hcs dX8_king_52 rfl w_470 w_471 w_472 w_56 w_473 hy_49 hm_49 <| sn_ret dX8_king_55 ab_ri_int
set_option maxRecDepth 100000 in
theorem sX8_king_4 {G : ab_G} {xs : List Int32} {d : Nat} {cal : ab_F} (hcs : ab_CS G (ab_Z G xs) ab_Mf cal d) : ab_Sd G (ab_Z G xs) (d + 1) (ab_mY mX8_king pX8_king) 56 (bX8_king_4 cal) :=
  sn_aload_n dX8_king_56 rfl <| sn_getf dX8_king_57 rfl hinX8 (by decide) w_285 <| sq_callV mt_50 hcs dX8_king_60 rfl w_526 w_475 w_476 w_56 w_477 hy_50 hm_50 <| sn_ret dX8_king_63 ab_ri_int
set_option maxRecDepth 100000 in
theorem sX8_king_5 {G : ab_G} {xs : List Int32} {d : Nat} {cal : ab_F} (hcs : ab_CS G (ab_Z G xs) ab_Mf cal d) : ab_Sd G (ab_Z G xs) (d + 1) (ab_mY mX8_king pX8_king) 64 (bX8_king_5 cal) :=
  sn_ldc dX8_king_64 w_323 <| sn_ret dX8_king_66 ab_ri_int
theorem sX8_king {G : ab_G} {xs : List Int32} {d : Nat} {cal : ab_F} (hcs : ab_CS G (ab_Z G xs) ab_Mf cal d) : ab_BS G (ab_Z G xs) (d + 1) (ab_mY mX8_king pX8_king) pX8_king (bX8_king cal) := ⟨sX8_king_0 hcs, sX8_king_1 hcs, sX8_king_2 hcs, sX8_king_3 hcs, sX8_king_4 hcs, sX8_king_5 hcs, trivial⟩
theorem dgX8_at_0 : decode cX8_at 0 = .ok (.iload_n 1, 1) ∧ decode cX8_at 1 = .ok (.invokestatic 102, 3) ∧ decode cX8_at 4 = .ok (.ifCond .eq 18, 3) ∧ decode cX8_at 7 = .ok (.aload_n 0, 1) ∧ decode cX8_at 8 = .ok (.getfield 10, 3) ∧ decode cX8_at 11 = .ok (.getfield 117, 3) ∧ decode cX8_at 14 = .ok (.iload_n 1, 1) ∧ decode cX8_at 15 = .ok (.iaload, 1) ∧ decode cX8_at 16 = .ok (.invokestatic 162, 3) ∧ decode cX8_at 19 = .ok (.goto 5, 3) ∧ decode cX8_at 22 = .ok (.ldc 64, 2) ∧ decode cX8_at 24 = .ok (.ireturn, 1) := by decide +kernel
theorem dX8_at_0 : decode cX8_at 0 = .ok (.iload_n 1, 1) := dgX8_at_0.1
theorem dX8_at_1 : decode cX8_at 1 = .ok (.invokestatic 102, 3) := dgX8_at_0.2.1
theorem dX8_at_4 : decode cX8_at 4 = .ok (.ifCond .eq 18, 3) := dgX8_at_0.2.2.1
theorem dX8_at_7 : decode cX8_at 7 = .ok (.aload_n 0, 1) := dgX8_at_0.2.2.2.1
theorem dX8_at_8 : decode cX8_at 8 = .ok (.getfield 10, 3) := dgX8_at_0.2.2.2.2.1
theorem dX8_at_11 : decode cX8_at 11 = .ok (.getfield 117, 3) := dgX8_at_0.2.2.2.2.2.1
theorem dX8_at_14 : decode cX8_at 14 = .ok (.iload_n 1, 1) := dgX8_at_0.2.2.2.2.2.2.1
theorem dX8_at_15 : decode cX8_at 15 = .ok (.iaload, 1) := dgX8_at_0.2.2.2.2.2.2.2.1
theorem dX8_at_16 : decode cX8_at 16 = .ok (.invokestatic 162, 3) := dgX8_at_0.2.2.2.2.2.2.2.2.1
theorem dX8_at_19 : decode cX8_at 19 = .ok (.goto 5, 3) := dgX8_at_0.2.2.2.2.2.2.2.2.2.1
theorem dX8_at_22 : decode cX8_at 22 = .ok (.ldc 64, 2) := dgX8_at_0.2.2.2.2.2.2.2.2.2.2.1
theorem dX8_at_24 : decode cX8_at 24 = .ok (.ireturn, 1) := dgX8_at_0.2.2.2.2.2.2.2.2.2.2.2
abbrev pX8_at : List Nat := [0, 22, 24]
def bX8_at_0 (cal : ab_F) : ab_K := o_iload 1 <| o_callS cal 120 1 <| o_if (fun x => decide (x = 0)) 1 <| o_aload 0 <| o_getf 7 0 <| o_getf 3 5 <| o_iload 1 <| o_iald 0 <| o_callS cal 125 1 <| o_goto 2
def bX8_at_1 (cal : ab_F) : ab_K := o_push (.int (-1000000001)) <| o_goto 2
def bX8_at_2 (cal : ab_F) : ab_K := o_ret (some .int)
def bX8_at (cal : ab_F) : List ab_K := [bX8_at_0 cal, bX8_at_1 cal, bX8_at_2 cal]
set_option maxRecDepth 100000 in
theorem sX8_at_0 {G : ab_G} {xs : List Int32} {d : Nat} {cal : ab_F} (hcs : ab_CS G (ab_Z G xs) ab_Mf cal d) : ab_Sd G (ab_Z G xs) (d + 1) (ab_mY mX8_at pX8_at) 0 (bX8_at_0 cal) :=
  sn_iload_n dX8_at_0 rfl <| sq_callS mt_120 hcs dX8_at_1 w_398 w_399 w_55 w_400 hy_120 hm_120 <| sn_if_eq (tg := 22) dX8_at_4 rfl rfl <| sn_aload_n dX8_at_7 rfl <| sn_getf dX8_at_8 rfl hinX8 (by decide) w_285 <| sn_getf dX8_at_11 rfl hinX4 (by decide) w_105 <| sn_iload_n dX8_at_14 rfl <| sn_iald dX8_at_15 rfl <| sq_callS mt_125 hcs dX8_at_16 w_531 w_532 w_55 w_533 hy_125 hm_125 <| sn_goto (tg := 24) dX8_at_19 rfl rfl
set_option maxRecDepth 100000 in
theorem sX8_at_1 {G : ab_G} {xs : List Int32} {d : Nat} {cal : ab_F} (hcs : ab_CS G (ab_Z G xs) ab_Mf cal d) : ab_Sd G (ab_Z G xs) (d + 1) (ab_mY mX8_at pX8_at) 22 (bX8_at_1 cal) :=
  sn_ldc dX8_at_22 w_323 <| sn_next rfl
set_option maxRecDepth 100000 in
theorem sX8_at_2 {G : ab_G} {xs : List Int32} {d : Nat} {cal : ab_F} (hcs : ab_CS G (ab_Z G xs) ab_Mf cal d) : ab_Sd G (ab_Z G xs) (d + 1) (ab_mY mX8_at pX8_at) 24 (bX8_at_2 cal) :=
  sn_ret dX8_at_24 ab_ri_int
theorem sX8_at {G : ab_G} {xs : List Int32} {d : Nat} {cal : ab_F} (hcs : ab_CS G (ab_Z G xs) ab_Mf cal d) : ab_BS G (ab_Z G xs) (d + 1) (ab_mY mX8_at pX8_at) pX8_at (bX8_at cal) := ⟨sX8_at_0 hcs, sX8_at_1 hcs, sX8_at_2 hcs, trivial⟩
theorem dgX8_best_0 : decode cX8_best 0 = .ok (.iload_n 1, 1) ∧ decode cX8_best 1 = .ok (.iconst 1, 1) ∧ decode cX8_best 2 = .ok (.bipush 6, 2) ∧ decode cX8_best 4 = .ok (.invokestatic 60, 3) ∧ decode cX8_best 7 = .ok (.ifCond .eq 12, 3) ∧ decode cX8_best 10 = .ok (.iload_n 2, 1) ∧ decode cX8_best 11 = .ok (.iconst 0, 1) ∧ decode cX8_best 12 = .ok (.iconst 1, 1) ∧ decode cX8_best 13 = .ok (.invokestatic 60, 3) ∧ decode cX8_best 16 = .ok (.ifCond .ne 6, 3) ∧ decode cX8_best 19 = .ok (.ldc 64, 2) ∧ decode cX8_best 21 = .ok (.ireturn, 1) ∧ decode cX8_best 22 = .ok (.aload_n 0, 1) ∧ decode cX8_best 23 = .ok (.getfield 22, 3) ∧ decode cX8_best 26 = .ok (.aload_n 0, 1) ∧ decode cX8_best 27 = .ok (.getfield 10, 3) := by decide +kernel
theorem dX8_best_0 : decode cX8_best 0 = .ok (.iload_n 1, 1) := dgX8_best_0.1
theorem dX8_best_1 : decode cX8_best 1 = .ok (.iconst 1, 1) := dgX8_best_0.2.1
theorem dX8_best_2 : decode cX8_best 2 = .ok (.bipush 6, 2) := dgX8_best_0.2.2.1
theorem dX8_best_4 : decode cX8_best 4 = .ok (.invokestatic 60, 3) := dgX8_best_0.2.2.2.1
theorem dX8_best_7 : decode cX8_best 7 = .ok (.ifCond .eq 12, 3) := dgX8_best_0.2.2.2.2.1
theorem dX8_best_10 : decode cX8_best 10 = .ok (.iload_n 2, 1) := dgX8_best_0.2.2.2.2.2.1
theorem dX8_best_11 : decode cX8_best 11 = .ok (.iconst 0, 1) := dgX8_best_0.2.2.2.2.2.2.1
theorem dX8_best_12 : decode cX8_best 12 = .ok (.iconst 1, 1) := dgX8_best_0.2.2.2.2.2.2.2.1
theorem dX8_best_13 : decode cX8_best 13 = .ok (.invokestatic 60, 3) := dgX8_best_0.2.2.2.2.2.2.2.2.1
theorem dX8_best_16 : decode cX8_best 16 = .ok (.ifCond .ne 6, 3) := dgX8_best_0.2.2.2.2.2.2.2.2.2.1
theorem dX8_best_19 : decode cX8_best 19 = .ok (.ldc 64, 2) := dgX8_best_0.2.2.2.2.2.2.2.2.2.2.1
theorem dX8_best_21 : decode cX8_best 21 = .ok (.ireturn, 1) := dgX8_best_0.2.2.2.2.2.2.2.2.2.2.2.1
theorem dX8_best_22 : decode cX8_best 22 = .ok (.aload_n 0, 1) := dgX8_best_0.2.2.2.2.2.2.2.2.2.2.2.2.1
theorem dX8_best_23 : decode cX8_best 23 = .ok (.getfield 22, 3) := dgX8_best_0.2.2.2.2.2.2.2.2.2.2.2.2.2.1
theorem dX8_best_26 : decode cX8_best 26 = .ok (.aload_n 0, 1) := dgX8_best_0.2.2.2.2.2.2.2.2.2.2.2.2.2.2.1
theorem dX8_best_27 : decode cX8_best 27 = .ok (.getfield 10, 3) := dgX8_best_0.2.2.2.2.2.2.2.2.2.2.2.2.2.2.2
theorem dgX8_best_1 : decode cX8_best 30 = .ok (.iload_n 1, 1) ∧ decode cX8_best 31 = .ok (.iload_n 2, 1) ∧ decode cX8_best 32 = .ok (.invokevirtual 165, 3) ∧ decode cX8_best 35 = .ok (.ireturn, 1) := by decide +kernel
theorem dX8_best_30 : decode cX8_best 30 = .ok (.iload_n 1, 1) := dgX8_best_1.1
theorem dX8_best_31 : decode cX8_best 31 = .ok (.iload_n 2, 1) := dgX8_best_1.2.1
theorem dX8_best_32 : decode cX8_best 32 = .ok (.invokevirtual 165, 3) := dgX8_best_1.2.2.1
theorem dX8_best_35 : decode cX8_best 35 = .ok (.ireturn, 1) := dgX8_best_1.2.2.2
abbrev pX8_best : List Nat := [0, 19, 22]
def bX8_best_0 (cal : ab_F) : ab_K := o_iload 1 <| o_push (.int 1) <| o_push (.int 6) <| o_callS cal 123 3 <| o_if (fun x => decide (x = 0)) 1 <| o_iload 2 <| o_push (.int 0) <| o_push (.int 1) <| o_callS cal 123 3 <| o_if (fun x => decide (¬ x = 0)) 2 <| o_goto 1
def bX8_best_1 (cal : ab_F) : ab_K := o_push (.int (-1000000001)) <| o_ret (some .int)
def bX8_best_2 (cal : ab_F) : ab_K := o_aload 0 <| o_getf 7 2 <| o_aload 0 <| o_getf 7 0 <| o_iload 1 <| o_iload 2 <| o_callV cal 72 3 6 <| o_ret (some .int)
def bX8_best (cal : ab_F) : List ab_K := [bX8_best_0 cal, bX8_best_1 cal, bX8_best_2 cal]
set_option maxRecDepth 100000 in
theorem sX8_best_0 {G : ab_G} {xs : List Int32} {d : Nat} {cal : ab_F} (hcs : ab_CS G (ab_Z G xs) ab_Mf cal d) : ab_Sd G (ab_Z G xs) (d + 1) (ab_mY mX8_best pX8_best) 0 (bX8_best_0 cal) :=
  sn_iload_n dX8_best_0 rfl <| sn_iconst dX8_best_1 rfl <| sn_bipush dX8_best_2 rfl <| sq_callS mt_123 hcs dX8_best_4 w_320 w_321 w_55 w_322 hy_123 hm_123 <| sn_if_eq (tg := 19) dX8_best_7 rfl rfl <| sn_iload_n dX8_best_10 rfl <| sn_iconst dX8_best_11 rfl <| sn_iconst dX8_best_12 rfl <| sq_callS mt_123 hcs dX8_best_13 w_320 w_321 w_55 w_322 hy_123 hm_123 <| sn_if_ne (tg := 22) dX8_best_16 rfl rfl <| sn_next rfl
set_option maxRecDepth 100000 in
theorem sX8_best_1 {G : ab_G} {xs : List Int32} {d : Nat} {cal : ab_F} (hcs : ab_CS G (ab_Z G xs) ab_Mf cal d) : ab_Sd G (ab_Z G xs) (d + 1) (ab_mY mX8_best pX8_best) 19 (bX8_best_1 cal) :=
  sn_ldc dX8_best_19 w_323 <| sn_ret dX8_best_21 ab_ri_int
set_option maxRecDepth 100000 in
theorem sX8_best_2 {G : ab_G} {xs : List Int32} {d : Nat} {cal : ab_F} (hcs : ab_CS G (ab_Z G xs) ab_Mf cal d) : ab_Sd G (ab_Z G xs) (d + 1) (ab_mY mX8_best pX8_best) 22 (bX8_best_2 cal) :=
  sn_aload_n dX8_best_22 rfl <| sn_getf dX8_best_23 rfl hinX8 (by decide) w_287 <| sn_aload_n dX8_best_26 rfl <| sn_getf dX8_best_27 rfl hinX8 (by decide) w_285 <| sn_iload_n dX8_best_30 rfl <| sn_iload_n dX8_best_31 rfl <| sq_callV mt_72 hcs dX8_best_32 rfl w_539 w_540 w_541 w_58 w_542 hy_72 hm_72 <| sn_ret dX8_best_35 ab_ri_int
theorem sX8_best {G : ab_G} {xs : List Int32} {d : Nat} {cal : ab_F} (hcs : ab_CS G (ab_Z G xs) ab_Mf cal d) : ab_BS G (ab_Z G xs) (d + 1) (ab_mY mX8_best pX8_best) pX8_best (bX8_best cal) := ⟨sX8_best_0 hcs, sX8_best_1 hcs, sX8_best_2 hcs, trivial⟩
theorem dgX8_bestFor_0 : decode cX8_bestFor 0 = .ok (.iload_n 1, 1) ∧ decode cX8_bestFor 1 = .ok (.invokestatic 102, 3) ∧ decode cX8_bestFor 4 = .ok (.ifCond .eq 12, 3) ∧ decode cX8_bestFor 7 = .ok (.iload_n 2, 1) ∧ decode cX8_bestFor 8 = .ok (.iconst 0, 1) ∧ decode cX8_bestFor 9 = .ok (.iconst 1, 1) ∧ decode cX8_bestFor 10 = .ok (.invokestatic 60, 3) ∧ decode cX8_bestFor 13 = .ok (.ifCond .ne 6, 3) ∧ decode cX8_bestFor 16 = .ok (.ldc 64, 2) ∧ decode cX8_bestFor 18 = .ok (.ireturn, 1) ∧ decode cX8_bestFor 19 = .ok (.ldc 169, 2) ∧ decode cX8_bestFor 21 = .ok (.istore_n 3, 1) ∧ decode cX8_bestFor 22 = .ok (.ldc 169, 2) ∧ decode cX8_bestFor 24 = .ok (.istore 4, 2) ∧ decode cX8_bestFor 26 = .ok (.iconst 0, 1) ∧ decode cX8_bestFor 27 = .ok (.istore 5, 2) := by decide +kernel
theorem dX8_bestFor_0 : decode cX8_bestFor 0 = .ok (.iload_n 1, 1) := dgX8_bestFor_0.1
theorem dX8_bestFor_1 : decode cX8_bestFor 1 = .ok (.invokestatic 102, 3) := dgX8_bestFor_0.2.1
theorem dX8_bestFor_4 : decode cX8_bestFor 4 = .ok (.ifCond .eq 12, 3) := dgX8_bestFor_0.2.2.1
theorem dX8_bestFor_7 : decode cX8_bestFor 7 = .ok (.iload_n 2, 1) := dgX8_bestFor_0.2.2.2.1
theorem dX8_bestFor_8 : decode cX8_bestFor 8 = .ok (.iconst 0, 1) := dgX8_bestFor_0.2.2.2.2.1
theorem dX8_bestFor_9 : decode cX8_bestFor 9 = .ok (.iconst 1, 1) := dgX8_bestFor_0.2.2.2.2.2.1
theorem dX8_bestFor_10 : decode cX8_bestFor 10 = .ok (.invokestatic 60, 3) := dgX8_bestFor_0.2.2.2.2.2.2.1
theorem dX8_bestFor_13 : decode cX8_bestFor 13 = .ok (.ifCond .ne 6, 3) := dgX8_bestFor_0.2.2.2.2.2.2.2.1
theorem dX8_bestFor_16 : decode cX8_bestFor 16 = .ok (.ldc 64, 2) := dgX8_bestFor_0.2.2.2.2.2.2.2.2.1
theorem dX8_bestFor_18 : decode cX8_bestFor 18 = .ok (.ireturn, 1) := dgX8_bestFor_0.2.2.2.2.2.2.2.2.2.1
theorem dX8_bestFor_19 : decode cX8_bestFor 19 = .ok (.ldc 169, 2) := dgX8_bestFor_0.2.2.2.2.2.2.2.2.2.2.1
theorem dX8_bestFor_21 : decode cX8_bestFor 21 = .ok (.istore_n 3, 1) := dgX8_bestFor_0.2.2.2.2.2.2.2.2.2.2.2.1
theorem dX8_bestFor_22 : decode cX8_bestFor 22 = .ok (.ldc 169, 2) := dgX8_bestFor_0.2.2.2.2.2.2.2.2.2.2.2.2.1
theorem dX8_bestFor_24 : decode cX8_bestFor 24 = .ok (.istore 4, 2) := dgX8_bestFor_0.2.2.2.2.2.2.2.2.2.2.2.2.2.1
theorem dX8_bestFor_26 : decode cX8_bestFor 26 = .ok (.iconst 0, 1) := dgX8_bestFor_0.2.2.2.2.2.2.2.2.2.2.2.2.2.2.1
theorem dX8_bestFor_27 : decode cX8_bestFor 27 = .ok (.istore 5, 2) := dgX8_bestFor_0.2.2.2.2.2.2.2.2.2.2.2.2.2.2.2
theorem dgX8_bestFor_1 : decode cX8_bestFor 29 = .ok (.iload 5, 2) ∧ decode cX8_bestFor 31 = .ok (.aload_n 0, 1) ∧ decode cX8_bestFor 32 = .ok (.getfield 10, 3) ∧ decode cX8_bestFor 35 = .ok (.getfield 65, 3) ∧ decode cX8_bestFor 38 = .ok (.if_icmp .ge 41, 3) ∧ decode cX8_bestFor 41 = .ok (.aload_n 0, 1) ∧ decode cX8_bestFor 42 = .ok (.getfield 10, 3) ∧ decode cX8_bestFor 45 = .ok (.iload 5, 2) ∧ decode cX8_bestFor 47 = .ok (.iload_n 1, 1) ∧ decode cX8_bestFor 48 = .ok (.invokevirtual 170, 3) ∧ decode cX8_bestFor 51 = .ok (.istore 6, 2) ∧ decode cX8_bestFor 53 = .ok (.iload 4, 2) ∧ decode cX8_bestFor 55 = .ok (.ldc 169, 2) ∧ decode cX8_bestFor 57 = .ok (.if_icmp .eq 9, 3) ∧ decode cX8_bestFor 60 = .ok (.iload 6, 2) ∧ decode cX8_bestFor 62 = .ok (.iload_n 3, 1) := by decide +kernel
theorem dX8_bestFor_29 : decode cX8_bestFor 29 = .ok (.iload 5, 2) := dgX8_bestFor_1.1
theorem dX8_bestFor_31 : decode cX8_bestFor 31 = .ok (.aload_n 0, 1) := dgX8_bestFor_1.2.1
theorem dX8_bestFor_32 : decode cX8_bestFor 32 = .ok (.getfield 10, 3) := dgX8_bestFor_1.2.2.1
theorem dX8_bestFor_35 : decode cX8_bestFor 35 = .ok (.getfield 65, 3) := dgX8_bestFor_1.2.2.2.1
theorem dX8_bestFor_38 : decode cX8_bestFor 38 = .ok (.if_icmp .ge 41, 3) := dgX8_bestFor_1.2.2.2.2.1
theorem dX8_bestFor_41 : decode cX8_bestFor 41 = .ok (.aload_n 0, 1) := dgX8_bestFor_1.2.2.2.2.2.1
theorem dX8_bestFor_42 : decode cX8_bestFor 42 = .ok (.getfield 10, 3) := dgX8_bestFor_1.2.2.2.2.2.2.1
theorem dX8_bestFor_45 : decode cX8_bestFor 45 = .ok (.iload 5, 2) := dgX8_bestFor_1.2.2.2.2.2.2.2.1
theorem dX8_bestFor_47 : decode cX8_bestFor 47 = .ok (.iload_n 1, 1) := dgX8_bestFor_1.2.2.2.2.2.2.2.2.1
theorem dX8_bestFor_48 : decode cX8_bestFor 48 = .ok (.invokevirtual 170, 3) := dgX8_bestFor_1.2.2.2.2.2.2.2.2.2.1
theorem dX8_bestFor_51 : decode cX8_bestFor 51 = .ok (.istore 6, 2) := dgX8_bestFor_1.2.2.2.2.2.2.2.2.2.2.1
theorem dX8_bestFor_53 : decode cX8_bestFor 53 = .ok (.iload 4, 2) := dgX8_bestFor_1.2.2.2.2.2.2.2.2.2.2.2.1
theorem dX8_bestFor_55 : decode cX8_bestFor 55 = .ok (.ldc 169, 2) := dgX8_bestFor_1.2.2.2.2.2.2.2.2.2.2.2.2.1
theorem dX8_bestFor_57 : decode cX8_bestFor 57 = .ok (.if_icmp .eq 9, 3) := dgX8_bestFor_1.2.2.2.2.2.2.2.2.2.2.2.2.2.1
theorem dX8_bestFor_60 : decode cX8_bestFor 60 = .ok (.iload 6, 2) := dgX8_bestFor_1.2.2.2.2.2.2.2.2.2.2.2.2.2.2.1
theorem dX8_bestFor_62 : decode cX8_bestFor 62 = .ok (.iload_n 3, 1) := dgX8_bestFor_1.2.2.2.2.2.2.2.2.2.2.2.2.2.2.2
theorem dgX8_bestFor_2 : decode cX8_bestFor 63 = .ok (.if_icmp .ge 10, 3) ∧ decode cX8_bestFor 66 = .ok (.iload 6, 2) ∧ decode cX8_bestFor 68 = .ok (.istore_n 3, 1) ∧ decode cX8_bestFor 69 = .ok (.iload 5, 2) ∧ decode cX8_bestFor 71 = .ok (.istore 4, 2) ∧ decode cX8_bestFor 73 = .ok (.iinc 5 1, 3) ∧ decode cX8_bestFor 76 = .ok (.goto (-47), 3) ∧ decode cX8_bestFor 79 = .ok (.iload_n 2, 1) ∧ decode cX8_bestFor 80 = .ok (.ifCond .ne 8, 3) ∧ decode cX8_bestFor 83 = .ok (.iload 4, 2) ∧ decode cX8_bestFor 85 = .ok (.goto 4, 3) ∧ decode cX8_bestFor 88 = .ok (.iload_n 3, 1) ∧ decode cX8_bestFor 89 = .ok (.ireturn, 1) := by decide +kernel
theorem dX8_bestFor_63 : decode cX8_bestFor 63 = .ok (.if_icmp .ge 10, 3) := dgX8_bestFor_2.1
theorem dX8_bestFor_66 : decode cX8_bestFor 66 = .ok (.iload 6, 2) := dgX8_bestFor_2.2.1
theorem dX8_bestFor_68 : decode cX8_bestFor 68 = .ok (.istore_n 3, 1) := dgX8_bestFor_2.2.2.1
theorem dX8_bestFor_69 : decode cX8_bestFor 69 = .ok (.iload 5, 2) := dgX8_bestFor_2.2.2.2.1
theorem dX8_bestFor_71 : decode cX8_bestFor 71 = .ok (.istore 4, 2) := dgX8_bestFor_2.2.2.2.2.1
theorem dX8_bestFor_73 : decode cX8_bestFor 73 = .ok (.iinc 5 1, 3) := dgX8_bestFor_2.2.2.2.2.2.1
theorem dX8_bestFor_76 : decode cX8_bestFor 76 = .ok (.goto (-47), 3) := dgX8_bestFor_2.2.2.2.2.2.2.1
theorem dX8_bestFor_79 : decode cX8_bestFor 79 = .ok (.iload_n 2, 1) := dgX8_bestFor_2.2.2.2.2.2.2.2.1
theorem dX8_bestFor_80 : decode cX8_bestFor 80 = .ok (.ifCond .ne 8, 3) := dgX8_bestFor_2.2.2.2.2.2.2.2.2.1
theorem dX8_bestFor_83 : decode cX8_bestFor 83 = .ok (.iload 4, 2) := dgX8_bestFor_2.2.2.2.2.2.2.2.2.2.1
theorem dX8_bestFor_85 : decode cX8_bestFor 85 = .ok (.goto 4, 3) := dgX8_bestFor_2.2.2.2.2.2.2.2.2.2.2.1
theorem dX8_bestFor_88 : decode cX8_bestFor 88 = .ok (.iload_n 3, 1) := dgX8_bestFor_2.2.2.2.2.2.2.2.2.2.2.2.1
theorem dX8_bestFor_89 : decode cX8_bestFor 89 = .ok (.ireturn, 1) := dgX8_bestFor_2.2.2.2.2.2.2.2.2.2.2.2.2
abbrev pX8_bestFor : List Nat := [0, 16, 19, 29, 66, 73, 79, 88, 89]
def bX8_bestFor_0 (cal : ab_F) : ab_K := o_iload 1 <| o_callS cal 120 1 <| o_if (fun x => decide (x = 0)) 1 <| o_iload 2 <| o_push (.int 0) <| o_push (.int 1) <| o_callS cal 123 3 <| o_if (fun x => decide (¬ x = 0)) 2 <| o_goto 1
def bX8_bestFor_1 (cal : ab_F) : ab_K := o_push (.int (-1000000001)) <| o_ret (some .int)
def bX8_bestFor_2 (cal : ab_F) : ab_K := o_push (.int (-1000000005)) <| o_istore 3 <| o_push (.int (-1000000005)) <| o_istore 4 <| o_push (.int 0) <| o_istore 5 <| o_goto 3
def bX8_bestFor_3 (cal : ab_F) : ab_K := o_iload 5 <| o_aload 0 <| o_getf 7 0 <| o_getf 3 10 <| o_cmp (fun x y => decide (y ≤ x)) 6 <| o_aload 0 <| o_getf 7 0 <| o_iload 5 <| o_iload 1 <| o_callV cal 43 2 3 <| o_istore 6 <| o_iload 4 <| o_push (.int (-1000000005)) <| o_cmp (fun x y => decide (x = y)) 4 <| o_iload 6 <| o_iload 3 <| o_cmp (fun x y => decide (y ≤ x)) 5 <| o_goto 4
def bX8_bestFor_4 (cal : ab_F) : ab_K := o_iload 6 <| o_istore 3 <| o_iload 5 <| o_istore 4 <| o_goto 5
def bX8_bestFor_5 (cal : ab_F) : ab_K := o_iinc 5 1 <| o_goto 3
def bX8_bestFor_6 (cal : ab_F) : ab_K := o_iload 2 <| o_if (fun x => decide (¬ x = 0)) 7 <| o_iload 4 <| o_goto 8
def bX8_bestFor_7 (cal : ab_F) : ab_K := o_iload 3 <| o_goto 8
def bX8_bestFor_8 (cal : ab_F) : ab_K := o_ret (some .int)
def bX8_bestFor (cal : ab_F) : List ab_K := [bX8_bestFor_0 cal, bX8_bestFor_1 cal, bX8_bestFor_2 cal, bX8_bestFor_3 cal, bX8_bestFor_4 cal, bX8_bestFor_5 cal, bX8_bestFor_6 cal, bX8_bestFor_7 cal, bX8_bestFor_8 cal]
set_option maxRecDepth 100000 in
theorem sX8_bestFor_0 {G : ab_G} {xs : List Int32} {d : Nat} {cal : ab_F} (hcs : ab_CS G (ab_Z G xs) ab_Mf cal d) : ab_Sd G (ab_Z G xs) (d + 1) (ab_mY mX8_bestFor pX8_bestFor) 0 (bX8_bestFor_0 cal) :=
  sn_iload_n dX8_bestFor_0 rfl <| sq_callS mt_120 hcs dX8_bestFor_1 w_398 w_399 w_55 w_400 hy_120 hm_120 <| sn_if_eq (tg := 16) dX8_bestFor_4 rfl rfl <| sn_iload_n dX8_bestFor_7 rfl <| sn_iconst dX8_bestFor_8 rfl <| sn_iconst dX8_bestFor_9 rfl <| sq_callS mt_123 hcs dX8_bestFor_10 w_320 w_321 w_55 w_322 hy_123 hm_123 <| sn_if_ne (tg := 19) dX8_bestFor_13 rfl rfl <| sn_next rfl
set_option maxRecDepth 100000 in
theorem sX8_bestFor_1 {G : ab_G} {xs : List Int32} {d : Nat} {cal : ab_F} (hcs : ab_CS G (ab_Z G xs) ab_Mf cal d) : ab_Sd G (ab_Z G xs) (d + 1) (ab_mY mX8_bestFor pX8_bestFor) 16 (bX8_bestFor_1 cal) :=
  sn_ldc dX8_bestFor_16 w_323 <| sn_ret dX8_bestFor_18 ab_ri_int
set_option maxRecDepth 100000 in
theorem sX8_bestFor_2 {G : ab_G} {xs : List Int32} {d : Nat} {cal : ab_F} (hcs : ab_CS G (ab_Z G xs) ab_Mf cal d) : ab_Sd G (ab_Z G xs) (d + 1) (ab_mY mX8_bestFor pX8_bestFor) 19 (bX8_bestFor_2 cal) :=
  sn_ldc dX8_bestFor_19 w_534 <| sn_istore_n dX8_bestFor_21 rfl (by decide) <| sn_ldc dX8_bestFor_22 w_534 <| sn_istore dX8_bestFor_24 (by decide) <| sn_iconst dX8_bestFor_26 rfl <| sn_istore dX8_bestFor_27 (by decide) <| sn_next rfl
set_option maxRecDepth 100000 in
theorem sX8_bestFor_3 {G : ab_G} {xs : List Int32} {d : Nat} {cal : ab_F} (hcs : ab_CS G (ab_Z G xs) ab_Mf cal d) : ab_Sd G (ab_Z G xs) (d + 1) (ab_mY mX8_bestFor pX8_bestFor) 29 (bX8_bestFor_3 cal) :=
  sn_iload dX8_bestFor_29 <| sn_aload_n dX8_bestFor_31 rfl <| sn_getf dX8_bestFor_32 rfl hinX8 (by decide) w_285 <| sn_getf dX8_bestFor_35 rfl hinX4 (by decide) w_112 <| sn_cmp_ge (tg := 79) dX8_bestFor_38 rfl rfl <| sn_aload_n dX8_bestFor_41 rfl <| sn_getf dX8_bestFor_42 rfl hinX8 (by decide) w_285 <| sn_iload dX8_bestFor_45 <| sn_iload_n dX8_bestFor_47 rfl <| sq_callV mt_43 hcs dX8_bestFor_48 rfl w_560 w_550 w_551 w_56 w_552 hy_43 hm_43 <| sn_istore dX8_bestFor_51 (by decide) <| sn_iload dX8_bestFor_53 <| sn_ldc dX8_bestFor_55 w_534 <| sn_cmp_eq (tg := 66) dX8_bestFor_57 rfl rfl <| sn_iload dX8_bestFor_60 <| sn_iload_n dX8_bestFor_62 rfl <| sn_cmp_ge (tg := 73) dX8_bestFor_63 rfl rfl <| sn_next rfl
set_option maxRecDepth 100000 in
theorem sX8_bestFor_4 {G : ab_G} {xs : List Int32} {d : Nat} {cal : ab_F} (hcs : ab_CS G (ab_Z G xs) ab_Mf cal d) : ab_Sd G (ab_Z G xs) (d + 1) (ab_mY mX8_bestFor pX8_bestFor) 66 (bX8_bestFor_4 cal) :=
  sn_iload dX8_bestFor_66 <| sn_istore_n dX8_bestFor_68 rfl (by decide) <| sn_iload dX8_bestFor_69 <| sn_istore dX8_bestFor_71 (by decide) <| sn_next rfl
set_option maxRecDepth 100000 in
theorem sX8_bestFor_5 {G : ab_G} {xs : List Int32} {d : Nat} {cal : ab_F} (hcs : ab_CS G (ab_Z G xs) ab_Mf cal d) : ab_Sd G (ab_Z G xs) (d + 1) (ab_mY mX8_bestFor pX8_bestFor) 73 (bX8_bestFor_5 cal) :=
  sn_iinc dX8_bestFor_73 rfl (by decide) <| sn_goto (tg := 29) dX8_bestFor_76 rfl rfl
set_option maxRecDepth 100000 in
theorem sX8_bestFor_6 {G : ab_G} {xs : List Int32} {d : Nat} {cal : ab_F} (hcs : ab_CS G (ab_Z G xs) ab_Mf cal d) : ab_Sd G (ab_Z G xs) (d + 1) (ab_mY mX8_bestFor pX8_bestFor) 79 (bX8_bestFor_6 cal) :=
  sn_iload_n dX8_bestFor_79 rfl <| sn_if_ne (tg := 88) dX8_bestFor_80 rfl rfl <| sn_iload dX8_bestFor_83 <| sn_goto (tg := 89) dX8_bestFor_85 rfl rfl
set_option maxRecDepth 100000 in
theorem sX8_bestFor_7 {G : ab_G} {xs : List Int32} {d : Nat} {cal : ab_F} (hcs : ab_CS G (ab_Z G xs) ab_Mf cal d) : ab_Sd G (ab_Z G xs) (d + 1) (ab_mY mX8_bestFor pX8_bestFor) 88 (bX8_bestFor_7 cal) :=
  sn_iload_n dX8_bestFor_88 rfl <| sn_next rfl
set_option maxRecDepth 100000 in
theorem sX8_bestFor_8 {G : ab_G} {xs : List Int32} {d : Nat} {cal : ab_F} (hcs : ab_CS G (ab_Z G xs) ab_Mf cal d) : ab_Sd G (ab_Z G xs) (d + 1) (ab_mY mX8_bestFor pX8_bestFor) 89 (bX8_bestFor_8 cal) :=
  sn_ret dX8_bestFor_89 ab_ri_int
theorem sX8_bestFor {G : ab_G} {xs : List Int32} {d : Nat} {cal : ab_F} (hcs : ab_CS G (ab_Z G xs) ab_Mf cal d) : ab_BS G (ab_Z G xs) (d + 1) (ab_mY mX8_bestFor pX8_bestFor) pX8_bestFor (bX8_bestFor cal) := ⟨sX8_bestFor_0 hcs, sX8_bestFor_1 hcs, sX8_bestFor_2 hcs, sX8_bestFor_3 hcs, sX8_bestFor_4 hcs, sX8_bestFor_5 hcs, sX8_bestFor_6 hcs, sX8_bestFor_7 hcs, sX8_bestFor_8 hcs, trivial⟩
theorem dgX8_swap_0 : decode cX8_swap 0 = .ok (.iconst 0, 1) ∧ decode cX8_swap 1 = .ok (.istore_n 1, 1) ∧ decode cX8_swap 2 = .ok (.ldc 169, 2) ∧ decode cX8_swap 4 = .ok (.istore_n 2, 1) ∧ decode cX8_swap 5 = .ok (.iconst 0, 1) ∧ decode cX8_swap 6 = .ok (.istore_n 3, 1) ∧ decode cX8_swap 7 = .ok (.iload_n 3, 1) ∧ decode cX8_swap 8 = .ok (.aload_n 0, 1) ∧ decode cX8_swap 9 = .ok (.getfield 10, 3) ∧ decode cX8_swap 12 = .ok (.getfield 65, 3) ∧ decode cX8_swap 15 = .ok (.if_icmp .ge 61, 3) ∧ decode cX8_swap 18 = .ok (.iload_n 3, 1) ∧ decode cX8_swap 19 = .ok (.iconst 1, 1) ∧ decode cX8_swap 20 = .ok (.iadd, 1) ∧ decode cX8_swap 21 = .ok (.istore 4, 2) ∧ decode cX8_swap 23 = .ok (.iload 4, 2) := by decide +kernel
theorem dX8_swap_0 : decode cX8_swap 0 = .ok (.iconst 0, 1) := dgX8_swap_0.1
theorem dX8_swap_1 : decode cX8_swap 1 = .ok (.istore_n 1, 1) := dgX8_swap_0.2.1
theorem dX8_swap_2 : decode cX8_swap 2 = .ok (.ldc 169, 2) := dgX8_swap_0.2.2.1
theorem dX8_swap_4 : decode cX8_swap 4 = .ok (.istore_n 2, 1) := dgX8_swap_0.2.2.2.1
theorem dX8_swap_5 : decode cX8_swap 5 = .ok (.iconst 0, 1) := dgX8_swap_0.2.2.2.2.1
theorem dX8_swap_6 : decode cX8_swap 6 = .ok (.istore_n 3, 1) := dgX8_swap_0.2.2.2.2.2.1
theorem dX8_swap_7 : decode cX8_swap 7 = .ok (.iload_n 3, 1) := dgX8_swap_0.2.2.2.2.2.2.1
theorem dX8_swap_8 : decode cX8_swap 8 = .ok (.aload_n 0, 1) := dgX8_swap_0.2.2.2.2.2.2.2.1
theorem dX8_swap_9 : decode cX8_swap 9 = .ok (.getfield 10, 3) := dgX8_swap_0.2.2.2.2.2.2.2.2.1
theorem dX8_swap_12 : decode cX8_swap 12 = .ok (.getfield 65, 3) := dgX8_swap_0.2.2.2.2.2.2.2.2.2.1
theorem dX8_swap_15 : decode cX8_swap 15 = .ok (.if_icmp .ge 61, 3) := dgX8_swap_0.2.2.2.2.2.2.2.2.2.2.1
theorem dX8_swap_18 : decode cX8_swap 18 = .ok (.iload_n 3, 1) := dgX8_swap_0.2.2.2.2.2.2.2.2.2.2.2.1
theorem dX8_swap_19 : decode cX8_swap 19 = .ok (.iconst 1, 1) := dgX8_swap_0.2.2.2.2.2.2.2.2.2.2.2.2.1
theorem dX8_swap_20 : decode cX8_swap 20 = .ok (.iadd, 1) := dgX8_swap_0.2.2.2.2.2.2.2.2.2.2.2.2.2.1
theorem dX8_swap_21 : decode cX8_swap 21 = .ok (.istore 4, 2) := dgX8_swap_0.2.2.2.2.2.2.2.2.2.2.2.2.2.2.1
theorem dX8_swap_23 : decode cX8_swap 23 = .ok (.iload 4, 2) := dgX8_swap_0.2.2.2.2.2.2.2.2.2.2.2.2.2.2.2
theorem dgX8_swap_1 : decode cX8_swap 25 = .ok (.aload_n 0, 1) ∧ decode cX8_swap 26 = .ok (.getfield 10, 3) ∧ decode cX8_swap 29 = .ok (.getfield 65, 3) ∧ decode cX8_swap 32 = .ok (.if_icmp .ge 38, 3) ∧ decode cX8_swap 35 = .ok (.aload_n 0, 1) ∧ decode cX8_swap 36 = .ok (.getfield 10, 3) ∧ decode cX8_swap 39 = .ok (.iload_n 3, 1) ∧ decode cX8_swap 40 = .ok (.iload 4, 2) ∧ decode cX8_swap 42 = .ok (.invokevirtual 173, 3) ∧ decode cX8_swap 45 = .ok (.istore 5, 2) ∧ decode cX8_swap 47 = .ok (.iload 5, 2) ∧ decode cX8_swap 49 = .ok (.iload_n 1, 1) ∧ decode cX8_swap 50 = .ok (.if_icmp .le 14, 3) ∧ decode cX8_swap 53 = .ok (.iload 5, 2) ∧ decode cX8_swap 55 = .ok (.istore_n 1, 1) ∧ decode cX8_swap 56 = .ok (.bipush 100, 2) := by decide +kernel
theorem dX8_swap_25 : decode cX8_swap 25 = .ok (.aload_n 0, 1) := dgX8_swap_1.1
theorem dX8_swap_26 : decode cX8_swap 26 = .ok (.getfield 10, 3) := dgX8_swap_1.2.1
theorem dX8_swap_29 : decode cX8_swap 29 = .ok (.getfield 65, 3) := dgX8_swap_1.2.2.1
theorem dX8_swap_32 : decode cX8_swap 32 = .ok (.if_icmp .ge 38, 3) := dgX8_swap_1.2.2.2.1
theorem dX8_swap_35 : decode cX8_swap 35 = .ok (.aload_n 0, 1) := dgX8_swap_1.2.2.2.2.1
theorem dX8_swap_36 : decode cX8_swap 36 = .ok (.getfield 10, 3) := dgX8_swap_1.2.2.2.2.2.1
theorem dX8_swap_39 : decode cX8_swap 39 = .ok (.iload_n 3, 1) := dgX8_swap_1.2.2.2.2.2.2.1
theorem dX8_swap_40 : decode cX8_swap 40 = .ok (.iload 4, 2) := dgX8_swap_1.2.2.2.2.2.2.2.1
theorem dX8_swap_42 : decode cX8_swap 42 = .ok (.invokevirtual 173, 3) := dgX8_swap_1.2.2.2.2.2.2.2.2.1
theorem dX8_swap_45 : decode cX8_swap 45 = .ok (.istore 5, 2) := dgX8_swap_1.2.2.2.2.2.2.2.2.2.1
theorem dX8_swap_47 : decode cX8_swap 47 = .ok (.iload 5, 2) := dgX8_swap_1.2.2.2.2.2.2.2.2.2.2.1
theorem dX8_swap_49 : decode cX8_swap 49 = .ok (.iload_n 1, 1) := dgX8_swap_1.2.2.2.2.2.2.2.2.2.2.2.1
theorem dX8_swap_50 : decode cX8_swap 50 = .ok (.if_icmp .le 14, 3) := dgX8_swap_1.2.2.2.2.2.2.2.2.2.2.2.2.1
theorem dX8_swap_53 : decode cX8_swap 53 = .ok (.iload 5, 2) := dgX8_swap_1.2.2.2.2.2.2.2.2.2.2.2.2.2.1
theorem dX8_swap_55 : decode cX8_swap 55 = .ok (.istore_n 1, 1) := dgX8_swap_1.2.2.2.2.2.2.2.2.2.2.2.2.2.2.1
theorem dX8_swap_56 : decode cX8_swap 56 = .ok (.bipush 100, 2) := dgX8_swap_1.2.2.2.2.2.2.2.2.2.2.2.2.2.2.2
theorem dgX8_swap_2 : decode cX8_swap 58 = .ok (.iload_n 3, 1) ∧ decode cX8_swap 59 = .ok (.imul, 1) ∧ decode cX8_swap 60 = .ok (.iload 4, 2) ∧ decode cX8_swap 62 = .ok (.iadd, 1) ∧ decode cX8_swap 63 = .ok (.istore_n 2, 1) ∧ decode cX8_swap 64 = .ok (.iinc 4 1, 3) ∧ decode cX8_swap 67 = .ok (.goto (-44), 3) ∧ decode cX8_swap 70 = .ok (.iinc 3 1, 3) ∧ decode cX8_swap 73 = .ok (.goto (-66), 3) ∧ decode cX8_swap 76 = .ok (.iload_n 2, 1) ∧ decode cX8_swap 77 = .ok (.ireturn, 1) := by decide +kernel
theorem dX8_swap_58 : decode cX8_swap 58 = .ok (.iload_n 3, 1) := dgX8_swap_2.1
theorem dX8_swap_59 : decode cX8_swap 59 = .ok (.imul, 1) := dgX8_swap_2.2.1
theorem dX8_swap_60 : decode cX8_swap 60 = .ok (.iload 4, 2) := dgX8_swap_2.2.2.1
theorem dX8_swap_62 : decode cX8_swap 62 = .ok (.iadd, 1) := dgX8_swap_2.2.2.2.1
theorem dX8_swap_63 : decode cX8_swap 63 = .ok (.istore_n 2, 1) := dgX8_swap_2.2.2.2.2.1
theorem dX8_swap_64 : decode cX8_swap 64 = .ok (.iinc 4 1, 3) := dgX8_swap_2.2.2.2.2.2.1
theorem dX8_swap_67 : decode cX8_swap 67 = .ok (.goto (-44), 3) := dgX8_swap_2.2.2.2.2.2.2.1
theorem dX8_swap_70 : decode cX8_swap 70 = .ok (.iinc 3 1, 3) := dgX8_swap_2.2.2.2.2.2.2.2.1
theorem dX8_swap_73 : decode cX8_swap 73 = .ok (.goto (-66), 3) := dgX8_swap_2.2.2.2.2.2.2.2.2.1
theorem dX8_swap_76 : decode cX8_swap 76 = .ok (.iload_n 2, 1) := dgX8_swap_2.2.2.2.2.2.2.2.2.2.1
theorem dX8_swap_77 : decode cX8_swap 77 = .ok (.ireturn, 1) := dgX8_swap_2.2.2.2.2.2.2.2.2.2.2
abbrev pX8_swap : List Nat := [0, 7, 23, 64, 70, 76]
def bX8_swap_0 (cal : ab_F) : ab_K := o_push (.int 0) <| o_istore 1 <| o_push (.int (-1000000005)) <| o_istore 2 <| o_push (.int 0) <| o_istore 3 <| o_goto 1
def bX8_swap_1 (cal : ab_F) : ab_K := o_iload 3 <| o_aload 0 <| o_getf 7 0 <| o_getf 3 10 <| o_cmp (fun x y => decide (y ≤ x)) 5 <| o_iload 3 <| o_push (.int 1) <| o_bin (fun x y => x + y) <| o_istore 4 <| o_goto 2
def bX8_swap_2 (cal : ab_F) : ab_K := o_iload 4 <| o_aload 0 <| o_getf 7 0 <| o_getf 3 10 <| o_cmp (fun x y => decide (y ≤ x)) 4 <| o_aload 0 <| o_getf 7 0 <| o_iload 3 <| o_iload 4 <| o_callV cal 56 2 3 <| o_istore 5 <| o_iload 5 <| o_iload 1 <| o_cmp (fun x y => decide (x ≤ y)) 3 <| o_iload 5 <| o_istore 1 <| o_push (.int 100) <| o_iload 3 <| o_bin (fun x y => x * y) <| o_iload 4 <| o_bin (fun x y => x + y) <| o_istore 2 <| o_goto 3
def bX8_swap_3 (cal : ab_F) : ab_K := o_iinc 4 1 <| o_goto 2
def bX8_swap_4 (cal : ab_F) : ab_K := o_iinc 3 1 <| o_goto 1
def bX8_swap_5 (cal : ab_F) : ab_K := o_iload 2 <| o_ret (some .int)
def bX8_swap (cal : ab_F) : List ab_K := [bX8_swap_0 cal, bX8_swap_1 cal, bX8_swap_2 cal, bX8_swap_3 cal, bX8_swap_4 cal, bX8_swap_5 cal]
set_option maxRecDepth 100000 in
theorem sX8_swap_0 {G : ab_G} {xs : List Int32} {d : Nat} {cal : ab_F} (hcs : ab_CS G (ab_Z G xs) ab_Mf cal d) : ab_Sd G (ab_Z G xs) (d + 1) (ab_mY mX8_swap pX8_swap) 0 (bX8_swap_0 cal) :=
  sn_iconst dX8_swap_0 rfl <| sn_istore_n dX8_swap_1 rfl (by decide) <| sn_ldc dX8_swap_2 w_534 <| sn_istore_n dX8_swap_4 rfl (by decide) <| sn_iconst dX8_swap_5 rfl <| sn_istore_n dX8_swap_6 rfl (by decide) <| sn_next rfl
set_option maxRecDepth 100000 in
theorem sX8_swap_1 {G : ab_G} {xs : List Int32} {d : Nat} {cal : ab_F} (hcs : ab_CS G (ab_Z G xs) ab_Mf cal d) : ab_Sd G (ab_Z G xs) (d + 1) (ab_mY mX8_swap pX8_swap) 7 (bX8_swap_1 cal) :=
  sn_iload_n dX8_swap_7 rfl <| sn_aload_n dX8_swap_8 rfl <| sn_getf dX8_swap_9 rfl hinX8 (by decide) w_285 <| sn_getf dX8_swap_12 rfl hinX4 (by decide) w_112 <| sn_cmp_ge (tg := 76) dX8_swap_15 rfl rfl <| sn_iload_n dX8_swap_18 rfl <| sn_iconst dX8_swap_19 rfl <| sn_iadd dX8_swap_20 <| sn_istore dX8_swap_21 (by decide) <| sn_next rfl
set_option maxRecDepth 100000 in
theorem sX8_swap_2 {G : ab_G} {xs : List Int32} {d : Nat} {cal : ab_F} (hcs : ab_CS G (ab_Z G xs) ab_Mf cal d) : ab_Sd G (ab_Z G xs) (d + 1) (ab_mY mX8_swap pX8_swap) 23 (bX8_swap_2 cal) :=
  sn_iload dX8_swap_23 <| sn_aload_n dX8_swap_25 rfl <| sn_getf dX8_swap_26 rfl hinX8 (by decide) w_285 <| sn_getf dX8_swap_29 rfl hinX4 (by decide) w_112 <| sn_cmp_ge (tg := 70) dX8_swap_32 rfl rfl <| sn_aload_n dX8_swap_35 rfl <| sn_getf dX8_swap_36 rfl hinX8 (by decide) w_285 <| sn_iload_n dX8_swap_39 rfl <| sn_iload dX8_swap_40 <| sq_callV mt_56 hcs dX8_swap_42 rfl w_565 w_566 w_567 w_56 w_568 hy_56 hm_56 <| sn_istore dX8_swap_45 (by decide) <| sn_iload dX8_swap_47 <| sn_iload_n dX8_swap_49 rfl <| sn_cmp_le (tg := 64) dX8_swap_50 rfl rfl <| sn_iload dX8_swap_53 <| sn_istore_n dX8_swap_55 rfl (by decide) <| sn_bipush dX8_swap_56 rfl <| sn_iload_n dX8_swap_58 rfl <| sn_imul dX8_swap_59 <| sn_iload dX8_swap_60 <| sn_iadd dX8_swap_62 <| sn_istore_n dX8_swap_63 rfl (by decide) <| sn_next rfl
set_option maxRecDepth 100000 in
theorem sX8_swap_3 {G : ab_G} {xs : List Int32} {d : Nat} {cal : ab_F} (hcs : ab_CS G (ab_Z G xs) ab_Mf cal d) : ab_Sd G (ab_Z G xs) (d + 1) (ab_mY mX8_swap pX8_swap) 64 (bX8_swap_3 cal) :=
  sn_iinc dX8_swap_64 rfl (by decide) <| sn_goto (tg := 23) dX8_swap_67 rfl rfl
set_option maxRecDepth 100000 in
theorem sX8_swap_4 {G : ab_G} {xs : List Int32} {d : Nat} {cal : ab_F} (hcs : ab_CS G (ab_Z G xs) ab_Mf cal d) : ab_Sd G (ab_Z G xs) (d + 1) (ab_mY mX8_swap pX8_swap) 70 (bX8_swap_4 cal) :=
  sn_iinc dX8_swap_70 rfl (by decide) <| sn_goto (tg := 7) dX8_swap_73 rfl rfl
set_option maxRecDepth 100000 in
theorem sX8_swap_5 {G : ab_G} {xs : List Int32} {d : Nat} {cal : ab_F} (hcs : ab_CS G (ab_Z G xs) ab_Mf cal d) : ab_Sd G (ab_Z G xs) (d + 1) (ab_mY mX8_swap pX8_swap) 76 (bX8_swap_5 cal) :=
  sn_iload_n dX8_swap_76 rfl <| sn_ret dX8_swap_77 ab_ri_int
theorem sX8_swap {G : ab_G} {xs : List Int32} {d : Nat} {cal : ab_F} (hcs : ab_CS G (ab_Z G xs) ab_Mf cal d) : ab_BS G (ab_Z G xs) (d + 1) (ab_mY mX8_swap pX8_swap) pX8_swap (bX8_swap cal) := ⟨sX8_swap_0 hcs, sX8_swap_1 hcs, sX8_swap_2 hcs, sX8_swap_3 hcs, sX8_swap_4 hcs, sX8_swap_5 hcs, trivial⟩
theorem dgX8_knocked_0 : decode cX8_knocked 0 = .ok (.iload_n 1, 1) ∧ decode cX8_knocked 1 = .ok (.invokestatic 102, 3) ∧ decode cX8_knocked 4 = .ok (.ifCond .eq 14, 3) ∧ decode cX8_knocked 7 = .ok (.aload_n 0, 1) ∧ decode cX8_knocked 8 = .ok (.getfield 10, 3) ∧ decode cX8_knocked 11 = .ok (.iload_n 1, 1) ∧ decode cX8_knocked 12 = .ok (.invokevirtual 176, 3) ∧ decode cX8_knocked 15 = .ok (.goto 5, 3) ∧ decode cX8_knocked 18 = .ok (.ldc 64, 2) ∧ decode cX8_knocked 20 = .ok (.ireturn, 1) := by decide +kernel
theorem dX8_knocked_0 : decode cX8_knocked 0 = .ok (.iload_n 1, 1) := dgX8_knocked_0.1
theorem dX8_knocked_1 : decode cX8_knocked 1 = .ok (.invokestatic 102, 3) := dgX8_knocked_0.2.1
theorem dX8_knocked_4 : decode cX8_knocked 4 = .ok (.ifCond .eq 14, 3) := dgX8_knocked_0.2.2.1
theorem dX8_knocked_7 : decode cX8_knocked 7 = .ok (.aload_n 0, 1) := dgX8_knocked_0.2.2.2.1
theorem dX8_knocked_8 : decode cX8_knocked 8 = .ok (.getfield 10, 3) := dgX8_knocked_0.2.2.2.2.1
theorem dX8_knocked_11 : decode cX8_knocked 11 = .ok (.iload_n 1, 1) := dgX8_knocked_0.2.2.2.2.2.1
theorem dX8_knocked_12 : decode cX8_knocked 12 = .ok (.invokevirtual 176, 3) := dgX8_knocked_0.2.2.2.2.2.2.1
theorem dX8_knocked_15 : decode cX8_knocked 15 = .ok (.goto 5, 3) := dgX8_knocked_0.2.2.2.2.2.2.2.1
theorem dX8_knocked_18 : decode cX8_knocked 18 = .ok (.ldc 64, 2) := dgX8_knocked_0.2.2.2.2.2.2.2.2.1
theorem dX8_knocked_20 : decode cX8_knocked 20 = .ok (.ireturn, 1) := dgX8_knocked_0.2.2.2.2.2.2.2.2.2
abbrev pX8_knocked : List Nat := [0, 18, 20]
def bX8_knocked_0 (cal : ab_F) : ab_K := o_iload 1 <| o_callS cal 120 1 <| o_if (fun x => decide (x = 0)) 1 <| o_aload 0 <| o_getf 7 0 <| o_iload 1 <| o_callV cal 57 1 3 <| o_goto 2
def bX8_knocked_1 (cal : ab_F) : ab_K := o_push (.int (-1000000001)) <| o_goto 2
def bX8_knocked_2 (cal : ab_F) : ab_K := o_ret (some .int)
def bX8_knocked (cal : ab_F) : List ab_K := [bX8_knocked_0 cal, bX8_knocked_1 cal, bX8_knocked_2 cal]
set_option maxRecDepth 100000 in
theorem sX8_knocked_0 {G : ab_G} {xs : List Int32} {d : Nat} {cal : ab_F} (hcs : ab_CS G (ab_Z G xs) ab_Mf cal d) : ab_Sd G (ab_Z G xs) (d + 1) (ab_mY mX8_knocked pX8_knocked) 0 (bX8_knocked_0 cal) :=
  sn_iload_n dX8_knocked_0 rfl <| sq_callS mt_120 hcs dX8_knocked_1 w_398 w_399 w_55 w_400 hy_120 hm_120 <| sn_if_eq (tg := 18) dX8_knocked_4 rfl rfl <| sn_aload_n dX8_knocked_7 rfl <| sn_getf dX8_knocked_8 rfl hinX8 (by decide) w_285 <| sn_iload_n dX8_knocked_11 rfl <| sq_callV mt_57 hcs dX8_knocked_12 rfl w_573 w_574 w_575 w_56 w_576 hy_57 hm_57 <| sn_goto (tg := 20) dX8_knocked_15 rfl rfl
set_option maxRecDepth 100000 in
theorem sX8_knocked_1 {G : ab_G} {xs : List Int32} {d : Nat} {cal : ab_F} (hcs : ab_CS G (ab_Z G xs) ab_Mf cal d) : ab_Sd G (ab_Z G xs) (d + 1) (ab_mY mX8_knocked pX8_knocked) 18 (bX8_knocked_1 cal) :=
  sn_ldc dX8_knocked_18 w_323 <| sn_next rfl
set_option maxRecDepth 100000 in
theorem sX8_knocked_2 {G : ab_G} {xs : List Int32} {d : Nat} {cal : ab_F} (hcs : ab_CS G (ab_Z G xs) ab_Mf cal d) : ab_Sd G (ab_Z G xs) (d + 1) (ab_mY mX8_knocked pX8_knocked) 20 (bX8_knocked_2 cal) :=
  sn_ret dX8_knocked_20 ab_ri_int
theorem sX8_knocked {G : ab_G} {xs : List Int32} {d : Nat} {cal : ab_F} (hcs : ab_CS G (ab_Z G xs) ab_Mf cal d) : ab_BS G (ab_Z G xs) (d + 1) (ab_mY mX8_knocked pX8_knocked) pX8_knocked (bX8_knocked cal) := ⟨sX8_knocked_0 hcs, sX8_knocked_1 hcs, sX8_knocked_2 hcs, trivial⟩
theorem dgX8_push_0 : decode cX8_push 0 = .ok (.iload_n 1, 1) ∧ decode cX8_push 1 = .ok (.iconst 0, 1) ∧ decode cX8_push 2 = .ok (.iconst 1, 1) ∧ decode cX8_push 3 = .ok (.invokestatic 60, 3) ∧ decode cX8_push 6 = .ok (.ifCond .ne 6, 3) ∧ decode cX8_push 9 = .ok (.ldc 64, 2) ∧ decode cX8_push 11 = .ok (.ireturn, 1) ∧ decode cX8_push 12 = .ok (.aload_n 0, 1) ∧ decode cX8_push 13 = .ok (.getfield 10, 3) ∧ decode cX8_push 16 = .ok (.iconst 0, 1) ∧ decode cX8_push 17 = .ok (.invokevirtual 176, 3) ∧ decode cX8_push 20 = .ok (.istore_n 2, 1) ∧ decode cX8_push 21 = .ok (.iconst 0, 1) ∧ decode cX8_push 22 = .ok (.istore_n 3, 1) ∧ decode cX8_push 23 = .ok (.iconst 1, 1) ∧ decode cX8_push 24 = .ok (.istore 4, 2) := by decide +kernel
theorem dX8_push_0 : decode cX8_push 0 = .ok (.iload_n 1, 1) := dgX8_push_0.1
theorem dX8_push_1 : decode cX8_push 1 = .ok (.iconst 0, 1) := dgX8_push_0.2.1
theorem dX8_push_2 : decode cX8_push 2 = .ok (.iconst 1, 1) := dgX8_push_0.2.2.1
theorem dX8_push_3 : decode cX8_push 3 = .ok (.invokestatic 60, 3) := dgX8_push_0.2.2.2.1
theorem dX8_push_6 : decode cX8_push 6 = .ok (.ifCond .ne 6, 3) := dgX8_push_0.2.2.2.2.1
theorem dX8_push_9 : decode cX8_push 9 = .ok (.ldc 64, 2) := dgX8_push_0.2.2.2.2.2.1
theorem dX8_push_11 : decode cX8_push 11 = .ok (.ireturn, 1) := dgX8_push_0.2.2.2.2.2.2.1
theorem dX8_push_12 : decode cX8_push 12 = .ok (.aload_n 0, 1) := dgX8_push_0.2.2.2.2.2.2.2.1
theorem dX8_push_13 : decode cX8_push 13 = .ok (.getfield 10, 3) := dgX8_push_0.2.2.2.2.2.2.2.2.1
theorem dX8_push_16 : decode cX8_push 16 = .ok (.iconst 0, 1) := dgX8_push_0.2.2.2.2.2.2.2.2.2.1
theorem dX8_push_17 : decode cX8_push 17 = .ok (.invokevirtual 176, 3) := dgX8_push_0.2.2.2.2.2.2.2.2.2.2.1
theorem dX8_push_20 : decode cX8_push 20 = .ok (.istore_n 2, 1) := dgX8_push_0.2.2.2.2.2.2.2.2.2.2.2.1
theorem dX8_push_21 : decode cX8_push 21 = .ok (.iconst 0, 1) := dgX8_push_0.2.2.2.2.2.2.2.2.2.2.2.2.1
theorem dX8_push_22 : decode cX8_push 22 = .ok (.istore_n 3, 1) := dgX8_push_0.2.2.2.2.2.2.2.2.2.2.2.2.2.1
theorem dX8_push_23 : decode cX8_push 23 = .ok (.iconst 1, 1) := dgX8_push_0.2.2.2.2.2.2.2.2.2.2.2.2.2.2.1
theorem dX8_push_24 : decode cX8_push 24 = .ok (.istore 4, 2) := dgX8_push_0.2.2.2.2.2.2.2.2.2.2.2.2.2.2.2
theorem dgX8_push_1 : decode cX8_push 26 = .ok (.iload 4, 2) ∧ decode cX8_push 28 = .ok (.bipush 12, 2) ∧ decode cX8_push 30 = .ok (.if_icmp .ge 32, 3) ∧ decode cX8_push 33 = .ok (.aload_n 0, 1) ∧ decode cX8_push 34 = .ok (.getfield 10, 3) ∧ decode cX8_push 37 = .ok (.iload 4, 2) ∧ decode cX8_push 39 = .ok (.invokevirtual 176, 3) ∧ decode cX8_push 42 = .ok (.istore 5, 2) ∧ decode cX8_push 44 = .ok (.iload 5, 2) ∧ decode cX8_push 46 = .ok (.iload_n 2, 1) ∧ decode cX8_push 47 = .ok (.if_icmp .le 9, 3) ∧ decode cX8_push 50 = .ok (.iload 5, 2) ∧ decode cX8_push 52 = .ok (.istore_n 2, 1) ∧ decode cX8_push 53 = .ok (.iload 4, 2) ∧ decode cX8_push 55 = .ok (.istore_n 3, 1) ∧ decode cX8_push 56 = .ok (.iinc 4 1, 3) := by decide +kernel
theorem dX8_push_26 : decode cX8_push 26 = .ok (.iload 4, 2) := dgX8_push_1.1
theorem dX8_push_28 : decode cX8_push 28 = .ok (.bipush 12, 2) := dgX8_push_1.2.1
theorem dX8_push_30 : decode cX8_push 30 = .ok (.if_icmp .ge 32, 3) := dgX8_push_1.2.2.1
theorem dX8_push_33 : decode cX8_push 33 = .ok (.aload_n 0, 1) := dgX8_push_1.2.2.2.1
theorem dX8_push_34 : decode cX8_push 34 = .ok (.getfield 10, 3) := dgX8_push_1.2.2.2.2.1
theorem dX8_push_37 : decode cX8_push 37 = .ok (.iload 4, 2) := dgX8_push_1.2.2.2.2.2.1
theorem dX8_push_39 : decode cX8_push 39 = .ok (.invokevirtual 176, 3) := dgX8_push_1.2.2.2.2.2.2.1
theorem dX8_push_42 : decode cX8_push 42 = .ok (.istore 5, 2) := dgX8_push_1.2.2.2.2.2.2.2.1
theorem dX8_push_44 : decode cX8_push 44 = .ok (.iload 5, 2) := dgX8_push_1.2.2.2.2.2.2.2.2.1
theorem dX8_push_46 : decode cX8_push 46 = .ok (.iload_n 2, 1) := dgX8_push_1.2.2.2.2.2.2.2.2.2.1
theorem dX8_push_47 : decode cX8_push 47 = .ok (.if_icmp .le 9, 3) := dgX8_push_1.2.2.2.2.2.2.2.2.2.2.1
theorem dX8_push_50 : decode cX8_push 50 = .ok (.iload 5, 2) := dgX8_push_1.2.2.2.2.2.2.2.2.2.2.2.1
theorem dX8_push_52 : decode cX8_push 52 = .ok (.istore_n 2, 1) := dgX8_push_1.2.2.2.2.2.2.2.2.2.2.2.2.1
theorem dX8_push_53 : decode cX8_push 53 = .ok (.iload 4, 2) := dgX8_push_1.2.2.2.2.2.2.2.2.2.2.2.2.2.1
theorem dX8_push_55 : decode cX8_push 55 = .ok (.istore_n 3, 1) := dgX8_push_1.2.2.2.2.2.2.2.2.2.2.2.2.2.2.1
theorem dX8_push_56 : decode cX8_push 56 = .ok (.iinc 4 1, 3) := dgX8_push_1.2.2.2.2.2.2.2.2.2.2.2.2.2.2.2
theorem dgX8_push_2 : decode cX8_push 59 = .ok (.goto (-33), 3) ∧ decode cX8_push 62 = .ok (.iload_n 1, 1) ∧ decode cX8_push 63 = .ok (.ifCond .ne 7, 3) ∧ decode cX8_push 66 = .ok (.iload_n 3, 1) ∧ decode cX8_push 67 = .ok (.goto 4, 3) ∧ decode cX8_push 70 = .ok (.iload_n 2, 1) ∧ decode cX8_push 71 = .ok (.ireturn, 1) := by decide +kernel
theorem dX8_push_59 : decode cX8_push 59 = .ok (.goto (-33), 3) := dgX8_push_2.1
theorem dX8_push_62 : decode cX8_push 62 = .ok (.iload_n 1, 1) := dgX8_push_2.2.1
theorem dX8_push_63 : decode cX8_push 63 = .ok (.ifCond .ne 7, 3) := dgX8_push_2.2.2.1
theorem dX8_push_66 : decode cX8_push 66 = .ok (.iload_n 3, 1) := dgX8_push_2.2.2.2.1
theorem dX8_push_67 : decode cX8_push 67 = .ok (.goto 4, 3) := dgX8_push_2.2.2.2.2.1
theorem dX8_push_70 : decode cX8_push 70 = .ok (.iload_n 2, 1) := dgX8_push_2.2.2.2.2.2.1
theorem dX8_push_71 : decode cX8_push 71 = .ok (.ireturn, 1) := dgX8_push_2.2.2.2.2.2.2
abbrev pX8_push : List Nat := [0, 12, 26, 56, 62, 70, 71]
def bX8_push_0 (cal : ab_F) : ab_K := o_iload 1 <| o_push (.int 0) <| o_push (.int 1) <| o_callS cal 123 3 <| o_if (fun x => decide (¬ x = 0)) 1 <| o_push (.int (-1000000001)) <| o_ret (some .int)
def bX8_push_1 (cal : ab_F) : ab_K := o_aload 0 <| o_getf 7 0 <| o_push (.int 0) <| o_callV cal 57 1 3 <| o_istore 2 <| o_push (.int 0) <| o_istore 3 <| o_push (.int 1) <| o_istore 4 <| o_goto 2
def bX8_push_2 (cal : ab_F) : ab_K := o_iload 4 <| o_push (.int 12) <| o_cmp (fun x y => decide (y ≤ x)) 4 <| o_aload 0 <| o_getf 7 0 <| o_iload 4 <| o_callV cal 57 1 3 <| o_istore 5 <| o_iload 5 <| o_iload 2 <| o_cmp (fun x y => decide (x ≤ y)) 3 <| o_iload 5 <| o_istore 2 <| o_iload 4 <| o_istore 3 <| o_goto 3
def bX8_push_3 (cal : ab_F) : ab_K := o_iinc 4 1 <| o_goto 2
def bX8_push_4 (cal : ab_F) : ab_K := o_iload 1 <| o_if (fun x => decide (¬ x = 0)) 5 <| o_iload 3 <| o_goto 6
def bX8_push_5 (cal : ab_F) : ab_K := o_iload 2 <| o_goto 6
def bX8_push_6 (cal : ab_F) : ab_K := o_ret (some .int)
def bX8_push (cal : ab_F) : List ab_K := [bX8_push_0 cal, bX8_push_1 cal, bX8_push_2 cal, bX8_push_3 cal, bX8_push_4 cal, bX8_push_5 cal, bX8_push_6 cal]
set_option maxRecDepth 100000 in
theorem sX8_push_0 {G : ab_G} {xs : List Int32} {d : Nat} {cal : ab_F} (hcs : ab_CS G (ab_Z G xs) ab_Mf cal d) : ab_Sd G (ab_Z G xs) (d + 1) (ab_mY mX8_push pX8_push) 0 (bX8_push_0 cal) :=
  sn_iload_n dX8_push_0 rfl <| sn_iconst dX8_push_1 rfl <| sn_iconst dX8_push_2 rfl <| sq_callS mt_123 hcs dX8_push_3 w_320 w_321 w_55 w_322 hy_123 hm_123 <| sn_if_ne (tg := 12) dX8_push_6 rfl rfl <| sn_ldc dX8_push_9 w_323 <| sn_ret dX8_push_11 ab_ri_int
set_option maxRecDepth 100000 in
theorem sX8_push_1 {G : ab_G} {xs : List Int32} {d : Nat} {cal : ab_F} (hcs : ab_CS G (ab_Z G xs) ab_Mf cal d) : ab_Sd G (ab_Z G xs) (d + 1) (ab_mY mX8_push pX8_push) 12 (bX8_push_1 cal) :=
  sn_aload_n dX8_push_12 rfl <| sn_getf dX8_push_13 rfl hinX8 (by decide) w_285 <| sn_iconst dX8_push_16 rfl <| sq_callV mt_57 hcs dX8_push_17 rfl w_573 w_574 w_575 w_56 w_576 hy_57 hm_57 <| sn_istore_n dX8_push_20 rfl (by decide) <| sn_iconst dX8_push_21 rfl <| sn_istore_n dX8_push_22 rfl (by decide) <| sn_iconst dX8_push_23 rfl <| sn_istore dX8_push_24 (by decide) <| sn_next rfl
set_option maxRecDepth 100000 in
theorem sX8_push_2 {G : ab_G} {xs : List Int32} {d : Nat} {cal : ab_F} (hcs : ab_CS G (ab_Z G xs) ab_Mf cal d) : ab_Sd G (ab_Z G xs) (d + 1) (ab_mY mX8_push pX8_push) 26 (bX8_push_2 cal) :=
  sn_iload dX8_push_26 <| sn_bipush dX8_push_28 rfl <| sn_cmp_ge (tg := 62) dX8_push_30 rfl rfl <| sn_aload_n dX8_push_33 rfl <| sn_getf dX8_push_34 rfl hinX8 (by decide) w_285 <| sn_iload dX8_push_37 <| sq_callV mt_57 hcs dX8_push_39 rfl w_573 w_574 w_575 w_56 w_576 hy_57 hm_57 <| sn_istore dX8_push_42 (by decide) <| sn_iload dX8_push_44 <| sn_iload_n dX8_push_46 rfl <| sn_cmp_le (tg := 56) dX8_push_47 rfl rfl <| sn_iload dX8_push_50 <| sn_istore_n dX8_push_52 rfl (by decide) <| sn_iload dX8_push_53 <| sn_istore_n dX8_push_55 rfl (by decide) <| sn_next rfl
set_option maxRecDepth 100000 in
theorem sX8_push_3 {G : ab_G} {xs : List Int32} {d : Nat} {cal : ab_F} (hcs : ab_CS G (ab_Z G xs) ab_Mf cal d) : ab_Sd G (ab_Z G xs) (d + 1) (ab_mY mX8_push pX8_push) 56 (bX8_push_3 cal) :=
  sn_iinc dX8_push_56 rfl (by decide) <| sn_goto (tg := 26) dX8_push_59 rfl rfl
set_option maxRecDepth 100000 in
theorem sX8_push_4 {G : ab_G} {xs : List Int32} {d : Nat} {cal : ab_F} (hcs : ab_CS G (ab_Z G xs) ab_Mf cal d) : ab_Sd G (ab_Z G xs) (d + 1) (ab_mY mX8_push pX8_push) 62 (bX8_push_4 cal) :=
  sn_iload_n dX8_push_62 rfl <| sn_if_ne (tg := 70) dX8_push_63 rfl rfl <| sn_iload_n dX8_push_66 rfl <| sn_goto (tg := 71) dX8_push_67 rfl rfl
set_option maxRecDepth 100000 in
theorem sX8_push_5 {G : ab_G} {xs : List Int32} {d : Nat} {cal : ab_F} (hcs : ab_CS G (ab_Z G xs) ab_Mf cal d) : ab_Sd G (ab_Z G xs) (d + 1) (ab_mY mX8_push pX8_push) 70 (bX8_push_5 cal) :=
  sn_iload_n dX8_push_70 rfl <| sn_next rfl
set_option maxRecDepth 100000 in
theorem sX8_push_6 {G : ab_G} {xs : List Int32} {d : Nat} {cal : ab_F} (hcs : ab_CS G (ab_Z G xs) ab_Mf cal d) : ab_Sd G (ab_Z G xs) (d + 1) (ab_mY mX8_push pX8_push) 71 (bX8_push_6 cal) :=
  sn_ret dX8_push_71 ab_ri_int
theorem sX8_push {G : ab_G} {xs : List Int32} {d : Nat} {cal : ab_F} (hcs : ab_CS G (ab_Z G xs) ab_Mf cal d) : ab_BS G (ab_Z G xs) (d + 1) (ab_mY mX8_push pX8_push) pX8_push (bX8_push cal) := ⟨sX8_push_0 hcs, sX8_push_1 hcs, sX8_push_2 hcs, sX8_push_3 hcs, sX8_push_4 hcs, sX8_push_5 hcs, sX8_push_6 hcs, trivial⟩
theorem dgX8_behind_0 : decode cX8_behind 0 = .ok (.iload_n 1, 1) ∧ decode cX8_behind 1 = .ok (.iconst 0, 1) ∧ decode cX8_behind 2 = .ok (.bipush 100, 2) ∧ decode cX8_behind 4 = .ok (.invokestatic 60, 3) ∧ decode cX8_behind 7 = .ok (.ifCond .eq 13, 3) ∧ decode cX8_behind 10 = .ok (.iload_n 2, 1) ∧ decode cX8_behind 11 = .ok (.iconst 0, 1) ∧ decode cX8_behind 12 = .ok (.bipush 14, 2) ∧ decode cX8_behind 14 = .ok (.invokestatic 60, 3) ∧ decode cX8_behind 17 = .ok (.ifCond .ne 6, 3) ∧ decode cX8_behind 20 = .ok (.ldc 64, 2) ∧ decode cX8_behind 22 = .ok (.ireturn, 1) ∧ decode cX8_behind 23 = .ok (.aload_n 0, 1) ∧ decode cX8_behind 24 = .ok (.getfield 22, 3) ∧ decode cX8_behind 27 = .ok (.aload_n 0, 1) ∧ decode cX8_behind 28 = .ok (.getfield 10, 3) := by decide +kernel
theorem dX8_behind_0 : decode cX8_behind 0 = .ok (.iload_n 1, 1) := dgX8_behind_0.1
theorem dX8_behind_1 : decode cX8_behind 1 = .ok (.iconst 0, 1) := dgX8_behind_0.2.1
theorem dX8_behind_2 : decode cX8_behind 2 = .ok (.bipush 100, 2) := dgX8_behind_0.2.2.1
theorem dX8_behind_4 : decode cX8_behind 4 = .ok (.invokestatic 60, 3) := dgX8_behind_0.2.2.2.1
theorem dX8_behind_7 : decode cX8_behind 7 = .ok (.ifCond .eq 13, 3) := dgX8_behind_0.2.2.2.2.1
theorem dX8_behind_10 : decode cX8_behind 10 = .ok (.iload_n 2, 1) := dgX8_behind_0.2.2.2.2.2.1
theorem dX8_behind_11 : decode cX8_behind 11 = .ok (.iconst 0, 1) := dgX8_behind_0.2.2.2.2.2.2.1
theorem dX8_behind_12 : decode cX8_behind 12 = .ok (.bipush 14, 2) := dgX8_behind_0.2.2.2.2.2.2.2.1
theorem dX8_behind_14 : decode cX8_behind 14 = .ok (.invokestatic 60, 3) := dgX8_behind_0.2.2.2.2.2.2.2.2.1
theorem dX8_behind_17 : decode cX8_behind 17 = .ok (.ifCond .ne 6, 3) := dgX8_behind_0.2.2.2.2.2.2.2.2.2.1
theorem dX8_behind_20 : decode cX8_behind 20 = .ok (.ldc 64, 2) := dgX8_behind_0.2.2.2.2.2.2.2.2.2.2.1
theorem dX8_behind_22 : decode cX8_behind 22 = .ok (.ireturn, 1) := dgX8_behind_0.2.2.2.2.2.2.2.2.2.2.2.1
theorem dX8_behind_23 : decode cX8_behind 23 = .ok (.aload_n 0, 1) := dgX8_behind_0.2.2.2.2.2.2.2.2.2.2.2.2.1
theorem dX8_behind_24 : decode cX8_behind 24 = .ok (.getfield 22, 3) := dgX8_behind_0.2.2.2.2.2.2.2.2.2.2.2.2.2.1
theorem dX8_behind_27 : decode cX8_behind 27 = .ok (.aload_n 0, 1) := dgX8_behind_0.2.2.2.2.2.2.2.2.2.2.2.2.2.2.1
theorem dX8_behind_28 : decode cX8_behind 28 = .ok (.getfield 10, 3) := dgX8_behind_0.2.2.2.2.2.2.2.2.2.2.2.2.2.2.2
theorem dgX8_behind_1 : decode cX8_behind 31 = .ok (.iload_n 1, 1) ∧ decode cX8_behind 32 = .ok (.invokevirtual 179, 3) ∧ decode cX8_behind 35 = .ok (.astore_n 3, 1) ∧ decode cX8_behind 36 = .ok (.iload_n 2, 1) ∧ decode cX8_behind 37 = .ok (.tableswitch 42 0 2 #[27, 32, 37], 27) ∧ decode cX8_behind 64 = .ok (.aload_n 3, 1) ∧ decode cX8_behind 65 = .ok (.invokevirtual 153, 3) ∧ decode cX8_behind 68 = .ok (.ireturn, 1) ∧ decode cX8_behind 69 = .ok (.aload_n 3, 1) ∧ decode cX8_behind 70 = .ok (.invokevirtual 156, 3) ∧ decode cX8_behind 73 = .ok (.ireturn, 1) ∧ decode cX8_behind 74 = .ok (.aload_n 3, 1) ∧ decode cX8_behind 75 = .ok (.invokevirtual 143, 3) ∧ decode cX8_behind 78 = .ok (.ireturn, 1) ∧ decode cX8_behind 79 = .ok (.aload_n 3, 1) ∧ decode cX8_behind 80 = .ok (.getfield 117, 3) := by decide +kernel
theorem dX8_behind_31 : decode cX8_behind 31 = .ok (.iload_n 1, 1) := dgX8_behind_1.1
theorem dX8_behind_32 : decode cX8_behind 32 = .ok (.invokevirtual 179, 3) := dgX8_behind_1.2.1
theorem dX8_behind_35 : decode cX8_behind 35 = .ok (.astore_n 3, 1) := dgX8_behind_1.2.2.1
theorem dX8_behind_36 : decode cX8_behind 36 = .ok (.iload_n 2, 1) := dgX8_behind_1.2.2.2.1
theorem dX8_behind_37 : decode cX8_behind 37 = .ok (.tableswitch 42 0 2 #[27, 32, 37], 27) := dgX8_behind_1.2.2.2.2.1
theorem dX8_behind_64 : decode cX8_behind 64 = .ok (.aload_n 3, 1) := dgX8_behind_1.2.2.2.2.2.1
theorem dX8_behind_65 : decode cX8_behind 65 = .ok (.invokevirtual 153, 3) := dgX8_behind_1.2.2.2.2.2.2.1
theorem dX8_behind_68 : decode cX8_behind 68 = .ok (.ireturn, 1) := dgX8_behind_1.2.2.2.2.2.2.2.1
theorem dX8_behind_69 : decode cX8_behind 69 = .ok (.aload_n 3, 1) := dgX8_behind_1.2.2.2.2.2.2.2.2.1
theorem dX8_behind_70 : decode cX8_behind 70 = .ok (.invokevirtual 156, 3) := dgX8_behind_1.2.2.2.2.2.2.2.2.2.1
theorem dX8_behind_73 : decode cX8_behind 73 = .ok (.ireturn, 1) := dgX8_behind_1.2.2.2.2.2.2.2.2.2.2.1
theorem dX8_behind_74 : decode cX8_behind 74 = .ok (.aload_n 3, 1) := dgX8_behind_1.2.2.2.2.2.2.2.2.2.2.2.1
theorem dX8_behind_75 : decode cX8_behind 75 = .ok (.invokevirtual 143, 3) := dgX8_behind_1.2.2.2.2.2.2.2.2.2.2.2.2.1
theorem dX8_behind_78 : decode cX8_behind 78 = .ok (.ireturn, 1) := dgX8_behind_1.2.2.2.2.2.2.2.2.2.2.2.2.2.1
theorem dX8_behind_79 : decode cX8_behind 79 = .ok (.aload_n 3, 1) := dgX8_behind_1.2.2.2.2.2.2.2.2.2.2.2.2.2.2.1
theorem dX8_behind_80 : decode cX8_behind 80 = .ok (.getfield 117, 3) := dgX8_behind_1.2.2.2.2.2.2.2.2.2.2.2.2.2.2.2
theorem dgX8_behind_2 : decode cX8_behind 83 = .ok (.iload_n 2, 1) ∧ decode cX8_behind 84 = .ok (.iconst 3, 1) ∧ decode cX8_behind 85 = .ok (.isub, 1) ∧ decode cX8_behind 86 = .ok (.iaload, 1) ∧ decode cX8_behind 87 = .ok (.invokestatic 162, 3) ∧ decode cX8_behind 90 = .ok (.ireturn, 1) := by decide +kernel
theorem dX8_behind_83 : decode cX8_behind 83 = .ok (.iload_n 2, 1) := dgX8_behind_2.1
theorem dX8_behind_84 : decode cX8_behind 84 = .ok (.iconst 3, 1) := dgX8_behind_2.2.1
theorem dX8_behind_85 : decode cX8_behind 85 = .ok (.isub, 1) := dgX8_behind_2.2.2.1
theorem dX8_behind_86 : decode cX8_behind 86 = .ok (.iaload, 1) := dgX8_behind_2.2.2.2.1
theorem dX8_behind_87 : decode cX8_behind 87 = .ok (.invokestatic 162, 3) := dgX8_behind_2.2.2.2.2.1
theorem dX8_behind_90 : decode cX8_behind 90 = .ok (.ireturn, 1) := dgX8_behind_2.2.2.2.2.2
abbrev pX8_behind : List Nat := [0, 20, 23, 64, 69, 74, 79]
def bX8_behind_0 (cal : ab_F) : ab_K := o_iload 1 <| o_push (.int 0) <| o_push (.int 100) <| o_callS cal 123 3 <| o_if (fun x => decide (x = 0)) 1 <| o_iload 2 <| o_push (.int 0) <| o_push (.int 14) <| o_callS cal 123 3 <| o_if (fun x => decide (¬ x = 0)) 2 <| o_goto 1
def bX8_behind_1 (cal : ab_F) : ab_K := o_push (.int (-1000000001)) <| o_ret (some .int)
def bX8_behind_2 (cal : ab_F) : ab_K := o_aload 0 <| o_getf 7 2 <| o_aload 0 <| o_getf 7 0 <| o_iload 1 <| o_callV cal 68 2 6 <| o_astore 3 <| o_iload 2 <| o_sw (ab_tsw 0 [3, 4, 5] 6)
def bX8_behind_3 (cal : ab_F) : ab_K := o_aload 3 <| o_callV cal 46 0 3 <| o_ret (some .int)
def bX8_behind_4 (cal : ab_F) : ab_K := o_aload 3 <| o_callV cal 47 0 3 <| o_ret (some .int)
def bX8_behind_5 (cal : ab_F) : ab_K := o_aload 3 <| o_callV cal 49 0 3 <| o_ret (some .int)
def bX8_behind_6 (cal : ab_F) : ab_K := o_aload 3 <| o_getf 3 5 <| o_iload 2 <| o_push (.int 3) <| o_bin (fun x y => x - y) <| o_iald 0 <| o_callS cal 125 1 <| o_ret (some .int)
def bX8_behind (cal : ab_F) : List ab_K := [bX8_behind_0 cal, bX8_behind_1 cal, bX8_behind_2 cal, bX8_behind_3 cal, bX8_behind_4 cal, bX8_behind_5 cal, bX8_behind_6 cal]
set_option maxRecDepth 100000 in
theorem sX8_behind_0 {G : ab_G} {xs : List Int32} {d : Nat} {cal : ab_F} (hcs : ab_CS G (ab_Z G xs) ab_Mf cal d) : ab_Sd G (ab_Z G xs) (d + 1) (ab_mY mX8_behind pX8_behind) 0 (bX8_behind_0 cal) :=
  sn_iload_n dX8_behind_0 rfl <| sn_iconst dX8_behind_1 rfl <| sn_bipush dX8_behind_2 rfl <| sq_callS mt_123 hcs dX8_behind_4 w_320 w_321 w_55 w_322 hy_123 hm_123 <| sn_if_eq (tg := 20) dX8_behind_7 rfl rfl <| sn_iload_n dX8_behind_10 rfl <| sn_iconst dX8_behind_11 rfl <| sn_bipush dX8_behind_12 rfl <| sq_callS mt_123 hcs dX8_behind_14 w_320 w_321 w_55 w_322 hy_123 hm_123 <| sn_if_ne (tg := 23) dX8_behind_17 rfl rfl <| sn_next rfl
set_option maxRecDepth 100000 in
theorem sX8_behind_1 {G : ab_G} {xs : List Int32} {d : Nat} {cal : ab_F} (hcs : ab_CS G (ab_Z G xs) ab_Mf cal d) : ab_Sd G (ab_Z G xs) (d + 1) (ab_mY mX8_behind pX8_behind) 20 (bX8_behind_1 cal) :=
  sn_ldc dX8_behind_20 w_323 <| sn_ret dX8_behind_22 ab_ri_int
set_option maxRecDepth 100000 in
theorem sX8_behind_2 {G : ab_G} {xs : List Int32} {d : Nat} {cal : ab_F} (hcs : ab_CS G (ab_Z G xs) ab_Mf cal d) : ab_Sd G (ab_Z G xs) (d + 1) (ab_mY mX8_behind pX8_behind) 23 (bX8_behind_2 cal) :=
  sn_aload_n dX8_behind_23 rfl <| sn_getf dX8_behind_24 rfl hinX8 (by decide) w_287 <| sn_aload_n dX8_behind_27 rfl <| sn_getf dX8_behind_28 rfl hinX8 (by decide) w_285 <| sn_iload_n dX8_behind_31 rfl <| sq_callV mt_68 hcs dX8_behind_32 rfl w_585 w_586 w_587 w_58 w_588 hy_68 hm_68 <| sn_astore_n dX8_behind_35 rfl (by decide) <| sn_iload_n dX8_behind_36 rfl <| sn_tsw dX8_behind_37 rfl rfl rfl
set_option maxRecDepth 100000 in
theorem sX8_behind_3 {G : ab_G} {xs : List Int32} {d : Nat} {cal : ab_F} (hcs : ab_CS G (ab_Z G xs) ab_Mf cal d) : ab_Sd G (ab_Z G xs) (d + 1) (ab_mY mX8_behind pX8_behind) 64 (bX8_behind_3 cal) :=
  sn_aload_n dX8_behind_64 rfl <| sq_callV mt_46 hcs dX8_behind_65 rfl w_510 w_511 w_512 w_56 w_513 hy_46 hm_46 <| sn_ret dX8_behind_68 ab_ri_int
set_option maxRecDepth 100000 in
theorem sX8_behind_4 {G : ab_G} {xs : List Int32} {d : Nat} {cal : ab_F} (hcs : ab_CS G (ab_Z G xs) ab_Mf cal d) : ab_Sd G (ab_Z G xs) (d + 1) (ab_mY mX8_behind pX8_behind) 69 (bX8_behind_4 cal) :=
  sn_aload_n dX8_behind_69 rfl <| sq_callV mt_47 hcs dX8_behind_70 rfl w_514 w_515 w_516 w_56 w_517 hy_47 hm_47 <| sn_ret dX8_behind_73 ab_ri_int
set_option maxRecDepth 100000 in
theorem sX8_behind_5 {G : ab_G} {xs : List Int32} {d : Nat} {cal : ab_F} (hcs : ab_CS G (ab_Z G xs) ab_Mf cal d) : ab_Sd G (ab_Z G xs) (d + 1) (ab_mY mX8_behind pX8_behind) 74 (bX8_behind_5 cal) :=
  sn_aload_n dX8_behind_74 rfl <| sq_callV mt_49 hcs dX8_behind_75 rfl w_470 w_471 w_472 w_56 w_473 hy_49 hm_49 <| sn_ret dX8_behind_78 ab_ri_int
set_option maxRecDepth 100000 in
theorem sX8_behind_6 {G : ab_G} {xs : List Int32} {d : Nat} {cal : ab_F} (hcs : ab_CS G (ab_Z G xs) ab_Mf cal d) : ab_Sd G (ab_Z G xs) (d + 1) (ab_mY mX8_behind pX8_behind) 79 (bX8_behind_6 cal) :=
  sn_aload_n dX8_behind_79 rfl <| sn_getf dX8_behind_80 rfl hinX4 (by decide) w_105 <| sn_iload_n dX8_behind_83 rfl <| sn_iconst dX8_behind_84 rfl <| sn_isub dX8_behind_85 <| sn_iald dX8_behind_86 rfl <| sq_callS mt_125 hcs dX8_behind_87 w_531 w_532 w_55 w_533 hy_125 hm_125 <| sn_ret dX8_behind_90 ab_ri_int
theorem sX8_behind {G : ab_G} {xs : List Int32} {d : Nat} {cal : ab_F} (hcs : ab_CS G (ab_Z G xs) ab_Mf cal d) : ab_BS G (ab_Z G xs) (d + 1) (ab_mY mX8_behind pX8_behind) pX8_behind (bX8_behind cal) := ⟨sX8_behind_0 hcs, sX8_behind_1 hcs, sX8_behind_2 hcs, sX8_behind_3 hcs, sX8_behind_4 hcs, sX8_behind_5 hcs, sX8_behind_6 hcs, trivial⟩
theorem dgX8_laid_0 : decode cX8_laid 0 = .ok (.aload_n 0, 1) ∧ decode cX8_laid 1 = .ok (.getfield 22, 3) ∧ decode cX8_laid 4 = .ok (.aload_n 0, 1) ∧ decode cX8_laid 5 = .ok (.getfield 10, 3) ∧ decode cX8_laid 8 = .ok (.invokevirtual 183, 3) ∧ decode cX8_laid 11 = .ok (.ireturn, 1) := by decide +kernel
theorem dX8_laid_0 : decode cX8_laid 0 = .ok (.aload_n 0, 1) := dgX8_laid_0.1
theorem dX8_laid_1 : decode cX8_laid 1 = .ok (.getfield 22, 3) := dgX8_laid_0.2.1
theorem dX8_laid_4 : decode cX8_laid 4 = .ok (.aload_n 0, 1) := dgX8_laid_0.2.2.1
theorem dX8_laid_5 : decode cX8_laid 5 = .ok (.getfield 10, 3) := dgX8_laid_0.2.2.2.1
theorem dX8_laid_8 : decode cX8_laid 8 = .ok (.invokevirtual 183, 3) := dgX8_laid_0.2.2.2.2.1
theorem dX8_laid_11 : decode cX8_laid 11 = .ok (.ireturn, 1) := dgX8_laid_0.2.2.2.2.2
abbrev pX8_laid : List Nat := [0]
def bX8_laid_0 (cal : ab_F) : ab_K := o_aload 0 <| o_getf 7 2 <| o_aload 0 <| o_getf 7 0 <| o_callV cal 69 1 6 <| o_ret (some .int)
def bX8_laid (cal : ab_F) : List ab_K := [bX8_laid_0 cal]
set_option maxRecDepth 100000 in
theorem sX8_laid_0 {G : ab_G} {xs : List Int32} {d : Nat} {cal : ab_F} (hcs : ab_CS G (ab_Z G xs) ab_Mf cal d) : ab_Sd G (ab_Z G xs) (d + 1) (ab_mY mX8_laid pX8_laid) 0 (bX8_laid_0 cal) :=
  sn_aload_n dX8_laid_0 rfl <| sn_getf dX8_laid_1 rfl hinX8 (by decide) w_287 <| sn_aload_n dX8_laid_4 rfl <| sn_getf dX8_laid_5 rfl hinX8 (by decide) w_285 <| sq_callV mt_69 hcs dX8_laid_8 rfl w_601 w_602 w_603 w_58 w_604 hy_69 hm_69 <| sn_ret dX8_laid_11 ab_ri_int
theorem sX8_laid {G : ab_G} {xs : List Int32} {d : Nat} {cal : ab_F} (hcs : ab_CS G (ab_Z G xs) ab_Mf cal d) : ab_BS G (ab_Z G xs) (d + 1) (ab_mY mX8_laid pX8_laid) pX8_laid (bX8_laid cal) := ⟨sX8_laid_0 hcs, trivial⟩
theorem dgX8_lost_0 : decode cX8_lost 0 = .ok (.iload_n 1, 1) ∧ decode cX8_lost 1 = .ok (.iconst 0, 1) ∧ decode cX8_lost 2 = .ok (.bipush 60, 2) ∧ decode cX8_lost 4 = .ok (.invokestatic 60, 3) ∧ decode cX8_lost 7 = .ok (.ifCond .eq 12, 3) ∧ decode cX8_lost 10 = .ok (.iload_n 2, 1) ∧ decode cX8_lost 11 = .ok (.iconst 0, 1) ∧ decode cX8_lost 12 = .ok (.iconst 1, 1) ∧ decode cX8_lost 13 = .ok (.invokestatic 60, 3) ∧ decode cX8_lost 16 = .ok (.ifCond .ne 6, 3) ∧ decode cX8_lost 19 = .ok (.ldc 64, 2) ∧ decode cX8_lost 21 = .ok (.ireturn, 1) ∧ decode cX8_lost 22 = .ok (.ldc 169, 2) ∧ decode cX8_lost 24 = .ok (.istore_n 3, 1) ∧ decode cX8_lost 25 = .ok (.ldc 169, 2) ∧ decode cX8_lost 27 = .ok (.istore 4, 2) := by decide +kernel
theorem dX8_lost_0 : decode cX8_lost 0 = .ok (.iload_n 1, 1) := dgX8_lost_0.1
theorem dX8_lost_1 : decode cX8_lost 1 = .ok (.iconst 0, 1) := dgX8_lost_0.2.1
theorem dX8_lost_2 : decode cX8_lost 2 = .ok (.bipush 60, 2) := dgX8_lost_0.2.2.1
theorem dX8_lost_4 : decode cX8_lost 4 = .ok (.invokestatic 60, 3) := dgX8_lost_0.2.2.2.1
theorem dX8_lost_7 : decode cX8_lost 7 = .ok (.ifCond .eq 12, 3) := dgX8_lost_0.2.2.2.2.1
theorem dX8_lost_10 : decode cX8_lost 10 = .ok (.iload_n 2, 1) := dgX8_lost_0.2.2.2.2.2.1
theorem dX8_lost_11 : decode cX8_lost 11 = .ok (.iconst 0, 1) := dgX8_lost_0.2.2.2.2.2.2.1
theorem dX8_lost_12 : decode cX8_lost 12 = .ok (.iconst 1, 1) := dgX8_lost_0.2.2.2.2.2.2.2.1
theorem dX8_lost_13 : decode cX8_lost 13 = .ok (.invokestatic 60, 3) := dgX8_lost_0.2.2.2.2.2.2.2.2.1
theorem dX8_lost_16 : decode cX8_lost 16 = .ok (.ifCond .ne 6, 3) := dgX8_lost_0.2.2.2.2.2.2.2.2.2.1
theorem dX8_lost_19 : decode cX8_lost 19 = .ok (.ldc 64, 2) := dgX8_lost_0.2.2.2.2.2.2.2.2.2.2.1
theorem dX8_lost_21 : decode cX8_lost 21 = .ok (.ireturn, 1) := dgX8_lost_0.2.2.2.2.2.2.2.2.2.2.2.1
theorem dX8_lost_22 : decode cX8_lost 22 = .ok (.ldc 169, 2) := dgX8_lost_0.2.2.2.2.2.2.2.2.2.2.2.2.1
theorem dX8_lost_24 : decode cX8_lost 24 = .ok (.istore_n 3, 1) := dgX8_lost_0.2.2.2.2.2.2.2.2.2.2.2.2.2.1
theorem dX8_lost_25 : decode cX8_lost 25 = .ok (.ldc 169, 2) := dgX8_lost_0.2.2.2.2.2.2.2.2.2.2.2.2.2.2.1
theorem dX8_lost_27 : decode cX8_lost 27 = .ok (.istore 4, 2) := dgX8_lost_0.2.2.2.2.2.2.2.2.2.2.2.2.2.2.2
theorem dgX8_lost_1 : decode cX8_lost 29 = .ok (.iconst 0, 1) ∧ decode cX8_lost 30 = .ok (.istore 5, 2) ∧ decode cX8_lost 32 = .ok (.iload 5, 2) ∧ decode cX8_lost 34 = .ok (.aload_n 0, 1) ∧ decode cX8_lost 35 = .ok (.getfield 10, 3) ∧ decode cX8_lost 38 = .ok (.getfield 65, 3) ∧ decode cX8_lost 41 = .ok (.if_icmp .ge 45, 3) ∧ decode cX8_lost 44 = .ok (.aload_n 0, 1) ∧ decode cX8_lost 45 = .ok (.getfield 22, 3) ∧ decode cX8_lost 48 = .ok (.aload_n 0, 1) ∧ decode cX8_lost 49 = .ok (.getfield 10, 3) ∧ decode cX8_lost 52 = .ok (.iload 5, 2) ∧ decode cX8_lost 54 = .ok (.iload_n 1, 1) ∧ decode cX8_lost 55 = .ok (.invokevirtual 187, 3) ∧ decode cX8_lost 58 = .ok (.istore 6, 2) ∧ decode cX8_lost 60 = .ok (.iload 4, 2) := by decide +kernel
theorem dX8_lost_29 : decode cX8_lost 29 = .ok (.iconst 0, 1) := dgX8_lost_1.1
theorem dX8_lost_30 : decode cX8_lost 30 = .ok (.istore 5, 2) := dgX8_lost_1.2.1
theorem dX8_lost_32 : decode cX8_lost 32 = .ok (.iload 5, 2) := dgX8_lost_1.2.2.1
theorem dX8_lost_34 : decode cX8_lost 34 = .ok (.aload_n 0, 1) := dgX8_lost_1.2.2.2.1
theorem dX8_lost_35 : decode cX8_lost 35 = .ok (.getfield 10, 3) := dgX8_lost_1.2.2.2.2.1
theorem dX8_lost_38 : decode cX8_lost 38 = .ok (.getfield 65, 3) := dgX8_lost_1.2.2.2.2.2.1
theorem dX8_lost_41 : decode cX8_lost 41 = .ok (.if_icmp .ge 45, 3) := dgX8_lost_1.2.2.2.2.2.2.1
theorem dX8_lost_44 : decode cX8_lost 44 = .ok (.aload_n 0, 1) := dgX8_lost_1.2.2.2.2.2.2.2.1
theorem dX8_lost_45 : decode cX8_lost 45 = .ok (.getfield 22, 3) := dgX8_lost_1.2.2.2.2.2.2.2.2.1
theorem dX8_lost_48 : decode cX8_lost 48 = .ok (.aload_n 0, 1) := dgX8_lost_1.2.2.2.2.2.2.2.2.2.1
theorem dX8_lost_49 : decode cX8_lost 49 = .ok (.getfield 10, 3) := dgX8_lost_1.2.2.2.2.2.2.2.2.2.2.1
theorem dX8_lost_52 : decode cX8_lost 52 = .ok (.iload 5, 2) := dgX8_lost_1.2.2.2.2.2.2.2.2.2.2.2.1
theorem dX8_lost_54 : decode cX8_lost 54 = .ok (.iload_n 1, 1) := dgX8_lost_1.2.2.2.2.2.2.2.2.2.2.2.2.1
theorem dX8_lost_55 : decode cX8_lost 55 = .ok (.invokevirtual 187, 3) := dgX8_lost_1.2.2.2.2.2.2.2.2.2.2.2.2.2.1
theorem dX8_lost_58 : decode cX8_lost 58 = .ok (.istore 6, 2) := dgX8_lost_1.2.2.2.2.2.2.2.2.2.2.2.2.2.2.1
theorem dX8_lost_60 : decode cX8_lost 60 = .ok (.iload 4, 2) := dgX8_lost_1.2.2.2.2.2.2.2.2.2.2.2.2.2.2.2
theorem dgX8_lost_2 : decode cX8_lost 62 = .ok (.ldc 169, 2) ∧ decode cX8_lost 64 = .ok (.if_icmp .eq 9, 3) ∧ decode cX8_lost 67 = .ok (.iload 6, 2) ∧ decode cX8_lost 69 = .ok (.iload_n 3, 1) ∧ decode cX8_lost 70 = .ok (.if_icmp .ge 10, 3) ∧ decode cX8_lost 73 = .ok (.iload 6, 2) ∧ decode cX8_lost 75 = .ok (.istore_n 3, 1) ∧ decode cX8_lost 76 = .ok (.iload 5, 2) ∧ decode cX8_lost 78 = .ok (.istore 4, 2) ∧ decode cX8_lost 80 = .ok (.iinc 5 1, 3) ∧ decode cX8_lost 83 = .ok (.goto (-51), 3) ∧ decode cX8_lost 86 = .ok (.iload_n 2, 1) ∧ decode cX8_lost 87 = .ok (.ifCond .ne 8, 3) ∧ decode cX8_lost 90 = .ok (.iload 4, 2) ∧ decode cX8_lost 92 = .ok (.goto 4, 3) ∧ decode cX8_lost 95 = .ok (.iload_n 3, 1) := by decide +kernel
theorem dX8_lost_62 : decode cX8_lost 62 = .ok (.ldc 169, 2) := dgX8_lost_2.1
theorem dX8_lost_64 : decode cX8_lost 64 = .ok (.if_icmp .eq 9, 3) := dgX8_lost_2.2.1
theorem dX8_lost_67 : decode cX8_lost 67 = .ok (.iload 6, 2) := dgX8_lost_2.2.2.1
theorem dX8_lost_69 : decode cX8_lost 69 = .ok (.iload_n 3, 1) := dgX8_lost_2.2.2.2.1
theorem dX8_lost_70 : decode cX8_lost 70 = .ok (.if_icmp .ge 10, 3) := dgX8_lost_2.2.2.2.2.1
theorem dX8_lost_73 : decode cX8_lost 73 = .ok (.iload 6, 2) := dgX8_lost_2.2.2.2.2.2.1
theorem dX8_lost_75 : decode cX8_lost 75 = .ok (.istore_n 3, 1) := dgX8_lost_2.2.2.2.2.2.2.1
theorem dX8_lost_76 : decode cX8_lost 76 = .ok (.iload 5, 2) := dgX8_lost_2.2.2.2.2.2.2.2.1
theorem dX8_lost_78 : decode cX8_lost 78 = .ok (.istore 4, 2) := dgX8_lost_2.2.2.2.2.2.2.2.2.1
theorem dX8_lost_80 : decode cX8_lost 80 = .ok (.iinc 5 1, 3) := dgX8_lost_2.2.2.2.2.2.2.2.2.2.1
theorem dX8_lost_83 : decode cX8_lost 83 = .ok (.goto (-51), 3) := dgX8_lost_2.2.2.2.2.2.2.2.2.2.2.1
theorem dX8_lost_86 : decode cX8_lost 86 = .ok (.iload_n 2, 1) := dgX8_lost_2.2.2.2.2.2.2.2.2.2.2.2.1
theorem dX8_lost_87 : decode cX8_lost 87 = .ok (.ifCond .ne 8, 3) := dgX8_lost_2.2.2.2.2.2.2.2.2.2.2.2.2.1
theorem dX8_lost_90 : decode cX8_lost 90 = .ok (.iload 4, 2) := dgX8_lost_2.2.2.2.2.2.2.2.2.2.2.2.2.2.1
theorem dX8_lost_92 : decode cX8_lost 92 = .ok (.goto 4, 3) := dgX8_lost_2.2.2.2.2.2.2.2.2.2.2.2.2.2.2.1
theorem dX8_lost_95 : decode cX8_lost 95 = .ok (.iload_n 3, 1) := dgX8_lost_2.2.2.2.2.2.2.2.2.2.2.2.2.2.2.2
theorem dX8_lost_96 : decode cX8_lost 96 = .ok (.ireturn, 1) := by decide +kernel
abbrev pX8_lost : List Nat := [0, 19, 22, 32, 73, 80, 86, 95, 96]
def bX8_lost_0 (cal : ab_F) : ab_K := o_iload 1 <| o_push (.int 0) <| o_push (.int 60) <| o_callS cal 123 3 <| o_if (fun x => decide (x = 0)) 1 <| o_iload 2 <| o_push (.int 0) <| o_push (.int 1) <| o_callS cal 123 3 <| o_if (fun x => decide (¬ x = 0)) 2 <| o_goto 1
def bX8_lost_1 (cal : ab_F) : ab_K := o_push (.int (-1000000001)) <| o_ret (some .int)
def bX8_lost_2 (cal : ab_F) : ab_K := o_push (.int (-1000000005)) <| o_istore 3 <| o_push (.int (-1000000005)) <| o_istore 4 <| o_push (.int 0) <| o_istore 5 <| o_goto 3
def bX8_lost_3 (cal : ab_F) : ab_K := o_iload 5 <| o_aload 0 <| o_getf 7 0 <| o_getf 3 10 <| o_cmp (fun x y => decide (y ≤ x)) 6 <| o_aload 0 <| o_getf 7 2 <| o_aload 0 <| o_getf 7 0 <| o_iload 5 <| o_iload 1 <| o_callV cal 70 3 6 <| o_istore 6 <| o_iload 4 <| o_push (.int (-1000000005)) <| o_cmp (fun x y => decide (x = y)) 4 <| o_iload 6 <| o_iload 3 <| o_cmp (fun x y => decide (y ≤ x)) 5 <| o_goto 4
def bX8_lost_4 (cal : ab_F) : ab_K := o_iload 6 <| o_istore 3 <| o_iload 5 <| o_istore 4 <| o_goto 5
def bX8_lost_5 (cal : ab_F) : ab_K := o_iinc 5 1 <| o_goto 3
def bX8_lost_6 (cal : ab_F) : ab_K := o_iload 2 <| o_if (fun x => decide (¬ x = 0)) 7 <| o_iload 4 <| o_goto 8
def bX8_lost_7 (cal : ab_F) : ab_K := o_iload 3 <| o_goto 8
def bX8_lost_8 (cal : ab_F) : ab_K := o_ret (some .int)
def bX8_lost (cal : ab_F) : List ab_K := [bX8_lost_0 cal, bX8_lost_1 cal, bX8_lost_2 cal, bX8_lost_3 cal, bX8_lost_4 cal, bX8_lost_5 cal, bX8_lost_6 cal, bX8_lost_7 cal, bX8_lost_8 cal]
set_option maxRecDepth 100000 in
theorem sX8_lost_0 {G : ab_G} {xs : List Int32} {d : Nat} {cal : ab_F} (hcs : ab_CS G (ab_Z G xs) ab_Mf cal d) : ab_Sd G (ab_Z G xs) (d + 1) (ab_mY mX8_lost pX8_lost) 0 (bX8_lost_0 cal) :=
  sn_iload_n dX8_lost_0 rfl <| sn_iconst dX8_lost_1 rfl <| sn_bipush dX8_lost_2 rfl <| sq_callS mt_123 hcs dX8_lost_4 w_320 w_321 w_55 w_322 hy_123 hm_123 <| sn_if_eq (tg := 19) dX8_lost_7 rfl rfl <| sn_iload_n dX8_lost_10 rfl <| sn_iconst dX8_lost_11 rfl <| sn_iconst dX8_lost_12 rfl <| sq_callS mt_123 hcs dX8_lost_13 w_320 w_321 w_55 w_322 hy_123 hm_123 <| sn_if_ne (tg := 22) dX8_lost_16 rfl rfl <| sn_next rfl
set_option maxRecDepth 100000 in
theorem sX8_lost_1 {G : ab_G} {xs : List Int32} {d : Nat} {cal : ab_F} (hcs : ab_CS G (ab_Z G xs) ab_Mf cal d) : ab_Sd G (ab_Z G xs) (d + 1) (ab_mY mX8_lost pX8_lost) 19 (bX8_lost_1 cal) :=
  sn_ldc dX8_lost_19 w_323 <| sn_ret dX8_lost_21 ab_ri_int
set_option maxRecDepth 100000 in
theorem sX8_lost_2 {G : ab_G} {xs : List Int32} {d : Nat} {cal : ab_F} (hcs : ab_CS G (ab_Z G xs) ab_Mf cal d) : ab_Sd G (ab_Z G xs) (d + 1) (ab_mY mX8_lost pX8_lost) 22 (bX8_lost_2 cal) :=
  sn_ldc dX8_lost_22 w_534 <| sn_istore_n dX8_lost_24 rfl (by decide) <| sn_ldc dX8_lost_25 w_534 <| sn_istore dX8_lost_27 (by decide) <| sn_iconst dX8_lost_29 rfl <| sn_istore dX8_lost_30 (by decide) <| sn_next rfl
set_option maxRecDepth 100000 in
theorem sX8_lost_3 {G : ab_G} {xs : List Int32} {d : Nat} {cal : ab_F} (hcs : ab_CS G (ab_Z G xs) ab_Mf cal d) : ab_Sd G (ab_Z G xs) (d + 1) (ab_mY mX8_lost pX8_lost) 32 (bX8_lost_3 cal) :=
  sn_iload dX8_lost_32 <| sn_aload_n dX8_lost_34 rfl <| sn_getf dX8_lost_35 rfl hinX8 (by decide) w_285 <| sn_getf dX8_lost_38 rfl hinX4 (by decide) w_112 <| sn_cmp_ge (tg := 86) dX8_lost_41 rfl rfl <| sn_aload_n dX8_lost_44 rfl <| sn_getf dX8_lost_45 rfl hinX8 (by decide) w_287 <| sn_aload_n dX8_lost_48 rfl <| sn_getf dX8_lost_49 rfl hinX8 (by decide) w_285 <| sn_iload dX8_lost_52 <| sn_iload_n dX8_lost_54 rfl <| sq_callV mt_70 hcs dX8_lost_55 rfl w_611 w_612 w_613 w_58 w_614 hy_70 hm_70 <| sn_istore dX8_lost_58 (by decide) <| sn_iload dX8_lost_60 <| sn_ldc dX8_lost_62 w_534 <| sn_cmp_eq (tg := 73) dX8_lost_64 rfl rfl <| sn_iload dX8_lost_67 <| sn_iload_n dX8_lost_69 rfl <| sn_cmp_ge (tg := 80) dX8_lost_70 rfl rfl <| sn_next rfl
set_option maxRecDepth 100000 in
theorem sX8_lost_4 {G : ab_G} {xs : List Int32} {d : Nat} {cal : ab_F} (hcs : ab_CS G (ab_Z G xs) ab_Mf cal d) : ab_Sd G (ab_Z G xs) (d + 1) (ab_mY mX8_lost pX8_lost) 73 (bX8_lost_4 cal) :=
  sn_iload dX8_lost_73 <| sn_istore_n dX8_lost_75 rfl (by decide) <| sn_iload dX8_lost_76 <| sn_istore dX8_lost_78 (by decide) <| sn_next rfl
set_option maxRecDepth 100000 in
theorem sX8_lost_5 {G : ab_G} {xs : List Int32} {d : Nat} {cal : ab_F} (hcs : ab_CS G (ab_Z G xs) ab_Mf cal d) : ab_Sd G (ab_Z G xs) (d + 1) (ab_mY mX8_lost pX8_lost) 80 (bX8_lost_5 cal) :=
  sn_iinc dX8_lost_80 rfl (by decide) <| sn_goto (tg := 32) dX8_lost_83 rfl rfl
set_option maxRecDepth 100000 in
theorem sX8_lost_6 {G : ab_G} {xs : List Int32} {d : Nat} {cal : ab_F} (hcs : ab_CS G (ab_Z G xs) ab_Mf cal d) : ab_Sd G (ab_Z G xs) (d + 1) (ab_mY mX8_lost pX8_lost) 86 (bX8_lost_6 cal) :=
  sn_iload_n dX8_lost_86 rfl <| sn_if_ne (tg := 95) dX8_lost_87 rfl rfl <| sn_iload dX8_lost_90 <| sn_goto (tg := 96) dX8_lost_92 rfl rfl
set_option maxRecDepth 100000 in
theorem sX8_lost_7 {G : ab_G} {xs : List Int32} {d : Nat} {cal : ab_F} (hcs : ab_CS G (ab_Z G xs) ab_Mf cal d) : ab_Sd G (ab_Z G xs) (d + 1) (ab_mY mX8_lost pX8_lost) 95 (bX8_lost_7 cal) :=
  sn_iload_n dX8_lost_95 rfl <| sn_next rfl
set_option maxRecDepth 100000 in
theorem sX8_lost_8 {G : ab_G} {xs : List Int32} {d : Nat} {cal : ab_F} (hcs : ab_CS G (ab_Z G xs) ab_Mf cal d) : ab_Sd G (ab_Z G xs) (d + 1) (ab_mY mX8_lost pX8_lost) 96 (bX8_lost_8 cal) :=
  sn_ret dX8_lost_96 ab_ri_int
theorem sX8_lost {G : ab_G} {xs : List Int32} {d : Nat} {cal : ab_F} (hcs : ab_CS G (ab_Z G xs) ab_Mf cal d) : ab_BS G (ab_Z G xs) (d + 1) (ab_mY mX8_lost pX8_lost) pX8_lost (bX8_lost cal) := ⟨sX8_lost_0 hcs, sX8_lost_1 hcs, sX8_lost_2 hcs, sX8_lost_3 hcs, sX8_lost_4 hcs, sX8_lost_5 hcs, sX8_lost_6 hcs, sX8_lost_7 hcs, sX8_lost_8 hcs, trivial⟩
theorem dgX8_seen_0 : decode cX8_seen 0 = .ok (.iload_n 1, 1) ∧ decode cX8_seen 1 = .ok (.invokestatic 190, 3) ∧ decode cX8_seen 4 = .ok (.ifCond .eq 12, 3) ∧ decode cX8_seen 7 = .ok (.iload_n 2, 1) ∧ decode cX8_seen 8 = .ok (.iconst 0, 1) ∧ decode cX8_seen 9 = .ok (.iconst 1, 1) ∧ decode cX8_seen 10 = .ok (.invokestatic 60, 3) ∧ decode cX8_seen 13 = .ok (.ifCond .ne 6, 3) ∧ decode cX8_seen 16 = .ok (.ldc 64, 2) ∧ decode cX8_seen 18 = .ok (.ireturn, 1) ∧ decode cX8_seen 19 = .ok (.aload_n 0, 1) ∧ decode cX8_seen 20 = .ok (.getfield 44, 3) ∧ decode cX8_seen 23 = .ok (.iload_n 1, 1) ∧ decode cX8_seen 24 = .ok (.aaload, 1) ∧ decode cX8_seen 25 = .ok (.invokevirtual 193, 3) ∧ decode cX8_seen 28 = .ok (.ifCond .eq 6, 3) := by decide +kernel
theorem dX8_seen_0 : decode cX8_seen 0 = .ok (.iload_n 1, 1) := dgX8_seen_0.1
theorem dX8_seen_1 : decode cX8_seen 1 = .ok (.invokestatic 190, 3) := dgX8_seen_0.2.1
theorem dX8_seen_4 : decode cX8_seen 4 = .ok (.ifCond .eq 12, 3) := dgX8_seen_0.2.2.1
theorem dX8_seen_7 : decode cX8_seen 7 = .ok (.iload_n 2, 1) := dgX8_seen_0.2.2.2.1
theorem dX8_seen_8 : decode cX8_seen 8 = .ok (.iconst 0, 1) := dgX8_seen_0.2.2.2.2.1
theorem dX8_seen_9 : decode cX8_seen 9 = .ok (.iconst 1, 1) := dgX8_seen_0.2.2.2.2.2.1
theorem dX8_seen_10 : decode cX8_seen 10 = .ok (.invokestatic 60, 3) := dgX8_seen_0.2.2.2.2.2.2.1
theorem dX8_seen_13 : decode cX8_seen 13 = .ok (.ifCond .ne 6, 3) := dgX8_seen_0.2.2.2.2.2.2.2.1
theorem dX8_seen_16 : decode cX8_seen 16 = .ok (.ldc 64, 2) := dgX8_seen_0.2.2.2.2.2.2.2.2.1
theorem dX8_seen_18 : decode cX8_seen 18 = .ok (.ireturn, 1) := dgX8_seen_0.2.2.2.2.2.2.2.2.2.1
theorem dX8_seen_19 : decode cX8_seen 19 = .ok (.aload_n 0, 1) := dgX8_seen_0.2.2.2.2.2.2.2.2.2.2.1
theorem dX8_seen_20 : decode cX8_seen 20 = .ok (.getfield 44, 3) := dgX8_seen_0.2.2.2.2.2.2.2.2.2.2.2.1
theorem dX8_seen_23 : decode cX8_seen 23 = .ok (.iload_n 1, 1) := dgX8_seen_0.2.2.2.2.2.2.2.2.2.2.2.2.1
theorem dX8_seen_24 : decode cX8_seen 24 = .ok (.aaload, 1) := dgX8_seen_0.2.2.2.2.2.2.2.2.2.2.2.2.2.1
theorem dX8_seen_25 : decode cX8_seen 25 = .ok (.invokevirtual 193, 3) := dgX8_seen_0.2.2.2.2.2.2.2.2.2.2.2.2.2.2.1
theorem dX8_seen_28 : decode cX8_seen 28 = .ok (.ifCond .eq 6, 3) := dgX8_seen_0.2.2.2.2.2.2.2.2.2.2.2.2.2.2.2
theorem dgX8_seen_1 : decode cX8_seen 31 = .ok (.ldc 197, 2) ∧ decode cX8_seen 33 = .ok (.ireturn, 1) ∧ decode cX8_seen 34 = .ok (.aload_n 0, 1) ∧ decode cX8_seen 35 = .ok (.getfield 10, 3) ∧ decode cX8_seen 38 = .ok (.iconst 0, 1) ∧ decode cX8_seen 39 = .ok (.aload_n 0, 1) ∧ decode cX8_seen 40 = .ok (.getfield 44, 3) ∧ decode cX8_seen 43 = .ok (.iload_n 1, 1) ∧ decode cX8_seen 44 = .ok (.aaload, 1) ∧ decode cX8_seen 45 = .ok (.invokevirtual 198, 3) ∧ decode cX8_seen 48 = .ok (.istore_n 3, 1) ∧ decode cX8_seen 49 = .ok (.iconst 0, 1) ∧ decode cX8_seen 50 = .ok (.istore 4, 2) ∧ decode cX8_seen 52 = .ok (.iconst 1, 1) ∧ decode cX8_seen 53 = .ok (.istore 5, 2) ∧ decode cX8_seen 55 = .ok (.iload 5, 2) := by decide +kernel
theorem dX8_seen_31 : decode cX8_seen 31 = .ok (.ldc 197, 2) := dgX8_seen_1.1
theorem dX8_seen_33 : decode cX8_seen 33 = .ok (.ireturn, 1) := dgX8_seen_1.2.1
theorem dX8_seen_34 : decode cX8_seen 34 = .ok (.aload_n 0, 1) := dgX8_seen_1.2.2.1
theorem dX8_seen_35 : decode cX8_seen 35 = .ok (.getfield 10, 3) := dgX8_seen_1.2.2.2.1
theorem dX8_seen_38 : decode cX8_seen 38 = .ok (.iconst 0, 1) := dgX8_seen_1.2.2.2.2.1
theorem dX8_seen_39 : decode cX8_seen 39 = .ok (.aload_n 0, 1) := dgX8_seen_1.2.2.2.2.2.1
theorem dX8_seen_40 : decode cX8_seen 40 = .ok (.getfield 44, 3) := dgX8_seen_1.2.2.2.2.2.2.1
theorem dX8_seen_43 : decode cX8_seen 43 = .ok (.iload_n 1, 1) := dgX8_seen_1.2.2.2.2.2.2.2.1
theorem dX8_seen_44 : decode cX8_seen 44 = .ok (.aaload, 1) := dgX8_seen_1.2.2.2.2.2.2.2.2.1
theorem dX8_seen_45 : decode cX8_seen 45 = .ok (.invokevirtual 198, 3) := dgX8_seen_1.2.2.2.2.2.2.2.2.2.1
theorem dX8_seen_48 : decode cX8_seen 48 = .ok (.istore_n 3, 1) := dgX8_seen_1.2.2.2.2.2.2.2.2.2.2.1
theorem dX8_seen_49 : decode cX8_seen 49 = .ok (.iconst 0, 1) := dgX8_seen_1.2.2.2.2.2.2.2.2.2.2.2.1
theorem dX8_seen_50 : decode cX8_seen 50 = .ok (.istore 4, 2) := dgX8_seen_1.2.2.2.2.2.2.2.2.2.2.2.2.1
theorem dX8_seen_52 : decode cX8_seen 52 = .ok (.iconst 1, 1) := dgX8_seen_1.2.2.2.2.2.2.2.2.2.2.2.2.2.1
theorem dX8_seen_53 : decode cX8_seen 53 = .ok (.istore 5, 2) := dgX8_seen_1.2.2.2.2.2.2.2.2.2.2.2.2.2.2.1
theorem dX8_seen_55 : decode cX8_seen 55 = .ok (.iload 5, 2) := dgX8_seen_1.2.2.2.2.2.2.2.2.2.2.2.2.2.2.2
theorem dgX8_seen_2 : decode cX8_seen 57 = .ok (.iconst 4, 1) ∧ decode cX8_seen 58 = .ok (.if_icmp .ge 39, 3) ∧ decode cX8_seen 61 = .ok (.aload_n 0, 1) ∧ decode cX8_seen 62 = .ok (.getfield 10, 3) ∧ decode cX8_seen 65 = .ok (.iload 5, 2) ∧ decode cX8_seen 67 = .ok (.aload_n 0, 1) ∧ decode cX8_seen 68 = .ok (.getfield 44, 3) ∧ decode cX8_seen 71 = .ok (.iload_n 1, 1) ∧ decode cX8_seen 72 = .ok (.aaload, 1) ∧ decode cX8_seen 73 = .ok (.invokevirtual 198, 3) ∧ decode cX8_seen 76 = .ok (.istore 6, 2) ∧ decode cX8_seen 78 = .ok (.iload 6, 2) ∧ decode cX8_seen 80 = .ok (.iload_n 3, 1) ∧ decode cX8_seen 81 = .ok (.if_icmp .ge 10, 3) ∧ decode cX8_seen 84 = .ok (.iload 6, 2) ∧ decode cX8_seen 86 = .ok (.istore_n 3, 1) := by decide +kernel
theorem dX8_seen_57 : decode cX8_seen 57 = .ok (.iconst 4, 1) := dgX8_seen_2.1
theorem dX8_seen_58 : decode cX8_seen 58 = .ok (.if_icmp .ge 39, 3) := dgX8_seen_2.2.1
theorem dX8_seen_61 : decode cX8_seen 61 = .ok (.aload_n 0, 1) := dgX8_seen_2.2.2.1
theorem dX8_seen_62 : decode cX8_seen 62 = .ok (.getfield 10, 3) := dgX8_seen_2.2.2.2.1
theorem dX8_seen_65 : decode cX8_seen 65 = .ok (.iload 5, 2) := dgX8_seen_2.2.2.2.2.1
theorem dX8_seen_67 : decode cX8_seen 67 = .ok (.aload_n 0, 1) := dgX8_seen_2.2.2.2.2.2.1
theorem dX8_seen_68 : decode cX8_seen 68 = .ok (.getfield 44, 3) := dgX8_seen_2.2.2.2.2.2.2.1
theorem dX8_seen_71 : decode cX8_seen 71 = .ok (.iload_n 1, 1) := dgX8_seen_2.2.2.2.2.2.2.2.1
theorem dX8_seen_72 : decode cX8_seen 72 = .ok (.aaload, 1) := dgX8_seen_2.2.2.2.2.2.2.2.2.1
theorem dX8_seen_73 : decode cX8_seen 73 = .ok (.invokevirtual 198, 3) := dgX8_seen_2.2.2.2.2.2.2.2.2.2.1
theorem dX8_seen_76 : decode cX8_seen 76 = .ok (.istore 6, 2) := dgX8_seen_2.2.2.2.2.2.2.2.2.2.2.1
theorem dX8_seen_78 : decode cX8_seen 78 = .ok (.iload 6, 2) := dgX8_seen_2.2.2.2.2.2.2.2.2.2.2.2.1
theorem dX8_seen_80 : decode cX8_seen 80 = .ok (.iload_n 3, 1) := dgX8_seen_2.2.2.2.2.2.2.2.2.2.2.2.2.1
theorem dX8_seen_81 : decode cX8_seen 81 = .ok (.if_icmp .ge 10, 3) := dgX8_seen_2.2.2.2.2.2.2.2.2.2.2.2.2.2.1
theorem dX8_seen_84 : decode cX8_seen 84 = .ok (.iload 6, 2) := dgX8_seen_2.2.2.2.2.2.2.2.2.2.2.2.2.2.2.1
theorem dX8_seen_86 : decode cX8_seen 86 = .ok (.istore_n 3, 1) := dgX8_seen_2.2.2.2.2.2.2.2.2.2.2.2.2.2.2.2
theorem dgX8_seen_3 : decode cX8_seen 87 = .ok (.iload 5, 2) ∧ decode cX8_seen 89 = .ok (.istore 4, 2) ∧ decode cX8_seen 91 = .ok (.iinc 5 1, 3) ∧ decode cX8_seen 94 = .ok (.goto (-39), 3) ∧ decode cX8_seen 97 = .ok (.iload_n 2, 1) ∧ decode cX8_seen 98 = .ok (.ifCond .ne 8, 3) ∧ decode cX8_seen 101 = .ok (.iload 4, 2) ∧ decode cX8_seen 103 = .ok (.goto 4, 3) ∧ decode cX8_seen 106 = .ok (.iload_n 3, 1) ∧ decode cX8_seen 107 = .ok (.ireturn, 1) := by decide +kernel
theorem dX8_seen_87 : decode cX8_seen 87 = .ok (.iload 5, 2) := dgX8_seen_3.1
theorem dX8_seen_89 : decode cX8_seen 89 = .ok (.istore 4, 2) := dgX8_seen_3.2.1
theorem dX8_seen_91 : decode cX8_seen 91 = .ok (.iinc 5 1, 3) := dgX8_seen_3.2.2.1
theorem dX8_seen_94 : decode cX8_seen 94 = .ok (.goto (-39), 3) := dgX8_seen_3.2.2.2.1
theorem dX8_seen_97 : decode cX8_seen 97 = .ok (.iload_n 2, 1) := dgX8_seen_3.2.2.2.2.1
theorem dX8_seen_98 : decode cX8_seen 98 = .ok (.ifCond .ne 8, 3) := dgX8_seen_3.2.2.2.2.2.1
theorem dX8_seen_101 : decode cX8_seen 101 = .ok (.iload 4, 2) := dgX8_seen_3.2.2.2.2.2.2.1
theorem dX8_seen_103 : decode cX8_seen 103 = .ok (.goto 4, 3) := dgX8_seen_3.2.2.2.2.2.2.2.1
theorem dX8_seen_106 : decode cX8_seen 106 = .ok (.iload_n 3, 1) := dgX8_seen_3.2.2.2.2.2.2.2.2.1
theorem dX8_seen_107 : decode cX8_seen 107 = .ok (.ireturn, 1) := dgX8_seen_3.2.2.2.2.2.2.2.2.2
abbrev pX8_seen : List Nat := [0, 16, 19, 34, 55, 91, 97, 106, 107]
def bX8_seen_0 (cal : ab_F) : ab_K := o_iload 1 <| o_callS cal 121 1 <| o_if (fun x => decide (x = 0)) 1 <| o_iload 2 <| o_push (.int 0) <| o_push (.int 1) <| o_callS cal 123 3 <| o_if (fun x => decide (¬ x = 0)) 2 <| o_goto 1
def bX8_seen_1 (cal : ab_F) : ab_K := o_push (.int (-1000000001)) <| o_ret (some .int)
def bX8_seen_2 (cal : ab_F) : ab_K := o_aload 0 <| o_getf 7 5 <| o_iload 1 <| o_aald 3 <| o_callV cal 21 0 1 <| o_if (fun x => decide (x = 0)) 3 <| o_push (.int (-1000000011)) <| o_ret (some .int)
def bX8_seen_3 (cal : ab_F) : ab_K := o_aload 0 <| o_getf 7 0 <| o_push (.int 0) <| o_aload 0 <| o_getf 7 5 <| o_iload 1 <| o_aald 3 <| o_callV cal 58 2 3 <| o_istore 3 <| o_push (.int 0) <| o_istore 4 <| o_push (.int 1) <| o_istore 5 <| o_goto 4
def bX8_seen_4 (cal : ab_F) : ab_K := o_iload 5 <| o_push (.int 4) <| o_cmp (fun x y => decide (y ≤ x)) 6 <| o_aload 0 <| o_getf 7 0 <| o_iload 5 <| o_aload 0 <| o_getf 7 5 <| o_iload 1 <| o_aald 3 <| o_callV cal 58 2 3 <| o_istore 6 <| o_iload 6 <| o_iload 3 <| o_cmp (fun x y => decide (y ≤ x)) 5 <| o_iload 6 <| o_istore 3 <| o_iload 5 <| o_istore 4 <| o_goto 5
def bX8_seen_5 (cal : ab_F) : ab_K := o_iinc 5 1 <| o_goto 4
def bX8_seen_6 (cal : ab_F) : ab_K := o_iload 2 <| o_if (fun x => decide (¬ x = 0)) 7 <| o_iload 4 <| o_goto 8
def bX8_seen_7 (cal : ab_F) : ab_K := o_iload 3 <| o_goto 8
def bX8_seen_8 (cal : ab_F) : ab_K := o_ret (some .int)
def bX8_seen (cal : ab_F) : List ab_K := [bX8_seen_0 cal, bX8_seen_1 cal, bX8_seen_2 cal, bX8_seen_3 cal, bX8_seen_4 cal, bX8_seen_5 cal, bX8_seen_6 cal, bX8_seen_7 cal, bX8_seen_8 cal]
set_option maxRecDepth 100000 in
theorem sX8_seen_0 {G : ab_G} {xs : List Int32} {d : Nat} {cal : ab_F} (hcs : ab_CS G (ab_Z G xs) ab_Mf cal d) : ab_Sd G (ab_Z G xs) (d + 1) (ab_mY mX8_seen pX8_seen) 0 (bX8_seen_0 cal) :=
  sn_iload_n dX8_seen_0 rfl <| sq_callS mt_121 hcs dX8_seen_1 w_621 w_622 w_55 w_623 hy_121 hm_121 <| sn_if_eq (tg := 16) dX8_seen_4 rfl rfl <| sn_iload_n dX8_seen_7 rfl <| sn_iconst dX8_seen_8 rfl <| sn_iconst dX8_seen_9 rfl <| sq_callS mt_123 hcs dX8_seen_10 w_320 w_321 w_55 w_322 hy_123 hm_123 <| sn_if_ne (tg := 19) dX8_seen_13 rfl rfl <| sn_next rfl
set_option maxRecDepth 100000 in
theorem sX8_seen_1 {G : ab_G} {xs : List Int32} {d : Nat} {cal : ab_F} (hcs : ab_CS G (ab_Z G xs) ab_Mf cal d) : ab_Sd G (ab_Z G xs) (d + 1) (ab_mY mX8_seen pX8_seen) 16 (bX8_seen_1 cal) :=
  sn_ldc dX8_seen_16 w_323 <| sn_ret dX8_seen_18 ab_ri_int
set_option maxRecDepth 100000 in
theorem sX8_seen_2 {G : ab_G} {xs : List Int32} {d : Nat} {cal : ab_F} (hcs : ab_CS G (ab_Z G xs) ab_Mf cal d) : ab_Sd G (ab_Z G xs) (d + 1) (ab_mY mX8_seen pX8_seen) 19 (bX8_seen_2 cal) :=
  sn_aload_n dX8_seen_19 rfl <| sn_getf dX8_seen_20 rfl hinX8 (by decide) w_290 <| sn_iload_n dX8_seen_23 rfl <| sn_aald dX8_seen_24 rfl <| sq_callV mt_21 hcs dX8_seen_25 rfl w_624 w_625 w_626 w_61 w_627 hy_21 hm_21 <| sn_if_eq (tg := 34) dX8_seen_28 rfl rfl <| sn_ldc dX8_seen_31 w_628 <| sn_ret dX8_seen_33 ab_ri_int
set_option maxRecDepth 100000 in
theorem sX8_seen_3 {G : ab_G} {xs : List Int32} {d : Nat} {cal : ab_F} (hcs : ab_CS G (ab_Z G xs) ab_Mf cal d) : ab_Sd G (ab_Z G xs) (d + 1) (ab_mY mX8_seen pX8_seen) 34 (bX8_seen_3 cal) :=
  sn_aload_n dX8_seen_34 rfl <| sn_getf dX8_seen_35 rfl hinX8 (by decide) w_285 <| sn_iconst dX8_seen_38 rfl <| sn_aload_n dX8_seen_39 rfl <| sn_getf dX8_seen_40 rfl hinX8 (by decide) w_290 <| sn_iload_n dX8_seen_43 rfl <| sn_aald dX8_seen_44 rfl <| sq_callV mt_58 hcs dX8_seen_45 rfl w_629 w_630 w_631 w_56 w_632 hy_58 hm_58 <| sn_istore_n dX8_seen_48 rfl (by decide) <| sn_iconst dX8_seen_49 rfl <| sn_istore dX8_seen_50 (by decide) <| sn_iconst dX8_seen_52 rfl <| sn_istore dX8_seen_53 (by decide) <| sn_next rfl
set_option maxRecDepth 100000 in
theorem sX8_seen_4 {G : ab_G} {xs : List Int32} {d : Nat} {cal : ab_F} (hcs : ab_CS G (ab_Z G xs) ab_Mf cal d) : ab_Sd G (ab_Z G xs) (d + 1) (ab_mY mX8_seen pX8_seen) 55 (bX8_seen_4 cal) :=
  sn_iload dX8_seen_55 <| sn_iconst dX8_seen_57 rfl <| sn_cmp_ge (tg := 97) dX8_seen_58 rfl rfl <| sn_aload_n dX8_seen_61 rfl <| sn_getf dX8_seen_62 rfl hinX8 (by decide) w_285 <| sn_iload dX8_seen_65 <| sn_aload_n dX8_seen_67 rfl <| sn_getf dX8_seen_68 rfl hinX8 (by decide) w_290 <| sn_iload_n dX8_seen_71 rfl <| sn_aald dX8_seen_72 rfl <| sq_callV mt_58 hcs dX8_seen_73 rfl w_629 w_630 w_631 w_56 w_632 hy_58 hm_58 <| sn_istore dX8_seen_76 (by decide) <| sn_iload dX8_seen_78 <| sn_iload_n dX8_seen_80 rfl <| sn_cmp_ge (tg := 91) dX8_seen_81 rfl rfl <| sn_iload dX8_seen_84 <| sn_istore_n dX8_seen_86 rfl (by decide) <| sn_iload dX8_seen_87 <| sn_istore dX8_seen_89 (by decide) <| sn_next rfl
set_option maxRecDepth 100000 in
theorem sX8_seen_5 {G : ab_G} {xs : List Int32} {d : Nat} {cal : ab_F} (hcs : ab_CS G (ab_Z G xs) ab_Mf cal d) : ab_Sd G (ab_Z G xs) (d + 1) (ab_mY mX8_seen pX8_seen) 91 (bX8_seen_5 cal) :=
  sn_iinc dX8_seen_91 rfl (by decide) <| sn_goto (tg := 55) dX8_seen_94 rfl rfl
set_option maxRecDepth 100000 in
theorem sX8_seen_6 {G : ab_G} {xs : List Int32} {d : Nat} {cal : ab_F} (hcs : ab_CS G (ab_Z G xs) ab_Mf cal d) : ab_Sd G (ab_Z G xs) (d + 1) (ab_mY mX8_seen pX8_seen) 97 (bX8_seen_6 cal) :=
  sn_iload_n dX8_seen_97 rfl <| sn_if_ne (tg := 106) dX8_seen_98 rfl rfl <| sn_iload dX8_seen_101 <| sn_goto (tg := 107) dX8_seen_103 rfl rfl
set_option maxRecDepth 100000 in
theorem sX8_seen_7 {G : ab_G} {xs : List Int32} {d : Nat} {cal : ab_F} (hcs : ab_CS G (ab_Z G xs) ab_Mf cal d) : ab_Sd G (ab_Z G xs) (d + 1) (ab_mY mX8_seen pX8_seen) 106 (bX8_seen_7 cal) :=
  sn_iload_n dX8_seen_106 rfl <| sn_next rfl
set_option maxRecDepth 100000 in
theorem sX8_seen_8 {G : ab_G} {xs : List Int32} {d : Nat} {cal : ab_F} (hcs : ab_CS G (ab_Z G xs) ab_Mf cal d) : ab_Sd G (ab_Z G xs) (d + 1) (ab_mY mX8_seen pX8_seen) 107 (bX8_seen_8 cal) :=
  sn_ret dX8_seen_107 ab_ri_int
theorem sX8_seen {G : ab_G} {xs : List Int32} {d : Nat} {cal : ab_F} (hcs : ab_CS G (ab_Z G xs) ab_Mf cal d) : ab_BS G (ab_Z G xs) (d + 1) (ab_mY mX8_seen pX8_seen) pX8_seen (bX8_seen cal) := ⟨sX8_seen_0 hcs, sX8_seen_1 hcs, sX8_seen_2 hcs, sX8_seen_3 hcs, sX8_seen_4 hcs, sX8_seen_5 hcs, sX8_seen_6 hcs, sX8_seen_7 hcs, sX8_seen_8 hcs, trivial⟩
