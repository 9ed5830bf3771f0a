theorem dgX6_init_0 : decode cX6_init 0 = .ok (.aload_n 0, 1) ∧ decode cX6_init 1 = .ok (.invokespecial 1, 3) ∧ decode cX6_init 4 = .ok (.aload_n 0, 1) ∧ decode cX6_init 5 = .ok (.iload_n 1, 1) ∧ decode cX6_init 6 = .ok (.putfield 7, 3) ∧ decode cX6_init 9 = .ok (.aload_n 0, 1) ∧ decode cX6_init 10 = .ok (.iload_n 2, 1) ∧ decode cX6_init 11 = .ok (.putfield 13, 3) ∧ decode cX6_init 14 = .ok (.aload_n 0, 1) ∧ decode cX6_init 15 = .ok (.aload_n 3, 1) ∧ decode cX6_init 16 = .ok (.putfield 16, 3) ∧ decode cX6_init 19 = .ok (.aload_n 0, 1) ∧ decode cX6_init 20 = .ok (.aload 4, 2) ∧ decode cX6_init 22 = .ok (.putfield 20, 3) ∧ decode cX6_init 25 = .ok (.aload_n 0, 1) ∧ decode cX6_init 26 = .ok (.iload_n 2, 1) := by decide +kernel
theorem dX6_init_0 : decode cX6_init 0 = .ok (.aload_n 0, 1) := dgX6_init_0.1
theorem dX6_init_1 : decode cX6_init 1 = .ok (.invokespecial 1, 3) := dgX6_init_0.2.1
theorem dX6_init_4 : decode cX6_init 4 = .ok (.aload_n 0, 1) := dgX6_init_0.2.2.1
theorem dX6_init_5 : decode cX6_init 5 = .ok (.iload_n 1, 1) := dgX6_init_0.2.2.2.1
theorem dX6_init_6 : decode cX6_init 6 = .ok (.putfield 7, 3) := dgX6_init_0.2.2.2.2.1
theorem dX6_init_9 : decode cX6_init 9 = .ok (.aload_n 0, 1) := dgX6_init_0.2.2.2.2.2.1
theorem dX6_init_10 : decode cX6_init 10 = .ok (.iload_n 2, 1) := dgX6_init_0.2.2.2.2.2.2.1
theorem dX6_init_11 : decode cX6_init 11 = .ok (.putfield 13, 3) := dgX6_init_0.2.2.2.2.2.2.2.1
theorem dX6_init_14 : decode cX6_init 14 = .ok (.aload_n 0, 1) := dgX6_init_0.2.2.2.2.2.2.2.2.1
theorem dX6_init_15 : decode cX6_init 15 = .ok (.aload_n 3, 1) := dgX6_init_0.2.2.2.2.2.2.2.2.2.1
theorem dX6_init_16 : decode cX6_init 16 = .ok (.putfield 16, 3) := dgX6_init_0.2.2.2.2.2.2.2.2.2.2.1
theorem dX6_init_19 : decode cX6_init 19 = .ok (.aload_n 0, 1) := dgX6_init_0.2.2.2.2.2.2.2.2.2.2.2.1
theorem dX6_init_20 : decode cX6_init 20 = .ok (.aload 4, 2) := dgX6_init_0.2.2.2.2.2.2.2.2.2.2.2.2.1
theorem dX6_init_22 : decode cX6_init 22 = .ok (.putfield 20, 3) := dgX6_init_0.2.2.2.2.2.2.2.2.2.2.2.2.2.1
theorem dX6_init_25 : decode cX6_init 25 = .ok (.aload_n 0, 1) := dgX6_init_0.2.2.2.2.2.2.2.2.2.2.2.2.2.2.1
theorem dX6_init_26 : decode cX6_init 26 = .ok (.iload_n 2, 1) := dgX6_init_0.2.2.2.2.2.2.2.2.2.2.2.2.2.2.2
theorem dgX6_init_1 : decode cX6_init 27 = .ok (.newarray .int, 2) ∧ decode cX6_init 29 = .ok (.putfield 23, 3) ∧ decode cX6_init 32 = .ok (.return_, 1) := by decide +kernel
theorem dX6_init_27 : decode cX6_init 27 = .ok (.newarray .int, 2) := dgX6_init_1.1
theorem dX6_init_29 : decode cX6_init 29 = .ok (.putfield 23, 3) := dgX6_init_1.2.1
theorem dX6_init_32 : decode cX6_init 32 = .ok (.return_, 1) := dgX6_init_1.2.2
abbrev pX6_init : List Nat := [0]
def bX6_init_0 (cal : ab_F) : ab_K := o_aload 0 <| o_oinit <| o_aload 0 <| o_iload 1 <| o_putI 5 0 <| o_aload 0 <| o_iload 2 <| o_putI 5 1 <| o_aload 0 <| o_aload 3 <| o_putA 5 2 <| o_aload 0 <| o_aload 4 <| o_putA 5 3 <| o_aload 0 <| o_iload 2 <| o_newi 0 <| o_putA 5 4 <| o_ret none
def bX6_init (cal : ab_F) : List ab_K := [bX6_init_0 cal]
set_option maxRecDepth 100000 in
theorem sX6_init_0 {G : ab_G} {xs : List Int32} {d : Nat} {cal : ab_F} (hcs : ab_CS G (ab_Z G xs) ab_Mf cal d) : ab_Sd G (ab_Z G xs) (d + 1) (ab_mY mX6_init pX6_init) 0 (bX6_init_0 cal) :=
  sn_aload_n dX6_init_0 rfl <| sn_oinit (Nat.le_add_left 1 _) dX6_init_1 w_854 w_80 w_81 <| sn_aload_n dX6_init_4 rfl <| sn_iload_n dX6_init_5 rfl <| sn_putI tyX6 tyX6_ok nmX6 dX6_init_6 rfl hinX6 (by decide) w_855 (Or.inr ⟨rfl, rfl, rfl⟩) (tyX6_ok 0 (by decide)) <| sn_aload_n dX6_init_9 rfl <| sn_iload_n dX6_init_10 rfl <| sn_putI tyX6 tyX6_ok nmX6 dX6_init_11 rfl hinX6 (by decide) w_858 (Or.inr ⟨rfl, rfl, rfl⟩) (tyX6_ok 1 (by decide)) <| sn_aload_n dX6_init_14 rfl <| sn_aload_n dX6_init_15 rfl <| sn_putA tyX6 tyX6_ok nmX6 dX6_init_16 rfl hinX6 (by decide) w_860 (Or.inr ⟨rfl, rfl, rfl⟩) (tyX6_ok 2 (by decide)) (fun _ => ⟨rfl, rfl⟩) ⟨rfl, rfl⟩ <| sn_aload_n dX6_init_19 rfl <| sn_aload dX6_init_20 <| sn_putA tyX6 tyX6_ok nmX6 dX6_init_22 rfl hinX6 (by decide) w_861 (Or.inr ⟨rfl, rfl, rfl⟩) (tyX6_ok 3 (by decide)) (fun _ => ⟨rfl, rfl⟩) ⟨rfl, rfl⟩ <| sn_aload_n dX6_init_25 rfl <| sn_iload_n dX6_init_26 rfl <| sn_newi dX6_init_27 rfl w_154 rfl (fun _ _ h => h) rfl (by decide) <| sn_putA tyX6 tyX6_ok nmX6 dX6_init_29 rfl hinX6 (by decide) w_862 (Or.inr ⟨rfl, rfl, rfl⟩) (tyX6_ok 4 (by decide)) (fun _ => ⟨rfl, rfl⟩) ⟨rfl, rfl⟩ <| sn_ret dX6_init_32 ab_ri_void
theorem sX6_init {G : ab_G} {xs : List Int32} {d : Nat} {cal : ab_F} (hcs : ab_CS G (ab_Z G xs) ab_Mf cal d) : ab_BS G (ab_Z G xs) (d + 1) (ab_mY mX6_init pX6_init) pX6_init (bX6_init cal) := ⟨sX6_init_0 hcs, trivial⟩
theorem dgX6_gives_0 : decode cX6_gives 0 = .ok (.iconst 0, 1) ∧ decode cX6_gives 1 = .ok (.istore 4, 2) ∧ decode cX6_gives 3 = .ok (.iconst 0, 1) ∧ decode cX6_gives 4 = .ok (.istore 5, 2) ∧ decode cX6_gives 6 = .ok (.iload 5, 2) ∧ decode cX6_gives 8 = .ok (.aload_n 0, 1) ∧ decode cX6_gives 9 = .ok (.getfield 16, 3) ∧ decode cX6_gives 12 = .ok (.arraylength, 1) ∧ decode cX6_gives 13 = .ok (.if_icmp .ge 189, 3) ∧ decode cX6_gives 16 = .ok (.iload 5, 2) ∧ decode cX6_gives 18 = .ok (.aload_n 0, 1) ∧ decode cX6_gives 19 = .ok (.getfield 20, 3) ∧ decode cX6_gives 22 = .ok (.arraylength, 1) ∧ decode cX6_gives 23 = .ok (.if_icmp .ge 179, 3) ∧ decode cX6_gives 26 = .ok (.aload_n 0, 1) ∧ decode cX6_gives 27 = .ok (.getfield 16, 3) := by decide +kernel
theorem dX6_gives_0 : decode cX6_gives 0 = .ok (.iconst 0, 1) := dgX6_gives_0.1
theorem dX6_gives_1 : decode cX6_gives 1 = .ok (.istore 4, 2) := dgX6_gives_0.2.1
theorem dX6_gives_3 : decode cX6_gives 3 = .ok (.iconst 0, 1) := dgX6_gives_0.2.2.1
theorem dX6_gives_4 : decode cX6_gives 4 = .ok (.istore 5, 2) := dgX6_gives_0.2.2.2.1
theorem dX6_gives_6 : decode cX6_gives 6 = .ok (.iload 5, 2) := dgX6_gives_0.2.2.2.2.1
theorem dX6_gives_8 : decode cX6_gives 8 = .ok (.aload_n 0, 1) := dgX6_gives_0.2.2.2.2.2.1
theorem dX6_gives_9 : decode cX6_gives 9 = .ok (.getfield 16, 3) := dgX6_gives_0.2.2.2.2.2.2.1
theorem dX6_gives_12 : decode cX6_gives 12 = .ok (.arraylength, 1) := dgX6_gives_0.2.2.2.2.2.2.2.1
theorem dX6_gives_13 : decode cX6_gives 13 = .ok (.if_icmp .ge 189, 3) := dgX6_gives_0.2.2.2.2.2.2.2.2.1
theorem dX6_gives_16 : decode cX6_gives 16 = .ok (.iload 5, 2) := dgX6_gives_0.2.2.2.2.2.2.2.2.2.1
theorem dX6_gives_18 : decode cX6_gives 18 = .ok (.aload_n 0, 1) := dgX6_gives_0.2.2.2.2.2.2.2.2.2.2.1
theorem dX6_gives_19 : decode cX6_gives 19 = .ok (.getfield 20, 3) := dgX6_gives_0.2.2.2.2.2.2.2.2.2.2.2.1
theorem dX6_gives_22 : decode cX6_gives 22 = .ok (.arraylength, 1) := dgX6_gives_0.2.2.2.2.2.2.2.2.2.2.2.2.1
theorem dX6_gives_23 : decode cX6_gives 23 = .ok (.if_icmp .ge 179, 3) := dgX6_gives_0.2.2.2.2.2.2.2.2.2.2.2.2.2.1
theorem dX6_gives_26 : decode cX6_gives 26 = .ok (.aload_n 0, 1) := dgX6_gives_0.2.2.2.2.2.2.2.2.2.2.2.2.2.2.1
theorem dX6_gives_27 : decode cX6_gives 27 = .ok (.getfield 16, 3) := dgX6_gives_0.2.2.2.2.2.2.2.2.2.2.2.2.2.2.2
theorem dgX6_gives_1 : decode cX6_gives 30 = .ok (.iload 5, 2) ∧ decode cX6_gives 32 = .ok (.iaload, 1) ∧ decode cX6_gives 33 = .ok (.ifCond .eq 14, 3) ∧ decode cX6_gives 36 = .ok (.aload_n 0, 1) ∧ decode cX6_gives 37 = .ok (.getfield 16, 3) ∧ decode cX6_gives 40 = .ok (.iload 5, 2) ∧ decode cX6_gives 42 = .ok (.iaload, 1) ∧ decode cX6_gives 43 = .ok (.iconst 1, 1) ∧ decode cX6_gives 44 = .ok (.if_icmp .ne 59, 3) ∧ decode cX6_gives 47 = .ok (.iload 4, 2) ∧ decode cX6_gives 49 = .ok (.aload_n 0, 1) ∧ decode cX6_gives 50 = .ok (.getfield 23, 3) ∧ decode cX6_gives 53 = .ok (.arraylength, 1) ∧ decode cX6_gives 54 = .ok (.if_icmp .ge 142, 3) ∧ decode cX6_gives 57 = .ok (.aload_n 0, 1) ∧ decode cX6_gives 58 = .ok (.getfield 23, 3) := by decide +kernel
theorem dX6_gives_30 : decode cX6_gives 30 = .ok (.iload 5, 2) := dgX6_gives_1.1
theorem dX6_gives_32 : decode cX6_gives 32 = .ok (.iaload, 1) := dgX6_gives_1.2.1
theorem dX6_gives_33 : decode cX6_gives 33 = .ok (.ifCond .eq 14, 3) := dgX6_gives_1.2.2.1
theorem dX6_gives_36 : decode cX6_gives 36 = .ok (.aload_n 0, 1) := dgX6_gives_1.2.2.2.1
theorem dX6_gives_37 : decode cX6_gives 37 = .ok (.getfield 16, 3) := dgX6_gives_1.2.2.2.2.1
theorem dX6_gives_40 : decode cX6_gives 40 = .ok (.iload 5, 2) := dgX6_gives_1.2.2.2.2.2.1
theorem dX6_gives_42 : decode cX6_gives 42 = .ok (.iaload, 1) := dgX6_gives_1.2.2.2.2.2.2.1
theorem dX6_gives_43 : decode cX6_gives 43 = .ok (.iconst 1, 1) := dgX6_gives_1.2.2.2.2.2.2.2.1
theorem dX6_gives_44 : decode cX6_gives 44 = .ok (.if_icmp .ne 59, 3) := dgX6_gives_1.2.2.2.2.2.2.2.2.1
theorem dX6_gives_47 : decode cX6_gives 47 = .ok (.iload 4, 2) := dgX6_gives_1.2.2.2.2.2.2.2.2.2.1
theorem dX6_gives_49 : decode cX6_gives 49 = .ok (.aload_n 0, 1) := dgX6_gives_1.2.2.2.2.2.2.2.2.2.2.1
theorem dX6_gives_50 : decode cX6_gives 50 = .ok (.getfield 23, 3) := dgX6_gives_1.2.2.2.2.2.2.2.2.2.2.2.1
theorem dX6_gives_53 : decode cX6_gives 53 = .ok (.arraylength, 1) := dgX6_gives_1.2.2.2.2.2.2.2.2.2.2.2.2.1
theorem dX6_gives_54 : decode cX6_gives 54 = .ok (.if_icmp .ge 142, 3) := dgX6_gives_1.2.2.2.2.2.2.2.2.2.2.2.2.2.1
theorem dX6_gives_57 : decode cX6_gives 57 = .ok (.aload_n 0, 1) := dgX6_gives_1.2.2.2.2.2.2.2.2.2.2.2.2.2.2.1
theorem dX6_gives_58 : decode cX6_gives 58 = .ok (.getfield 23, 3) := dgX6_gives_1.2.2.2.2.2.2.2.2.2.2.2.2.2.2.2
theorem dgX6_gives_2 : decode cX6_gives 61 = .ok (.iload 4, 2) ∧ decode cX6_gives 63 = .ok (.aload_n 0, 1) ∧ decode cX6_gives 64 = .ok (.getfield 16, 3) ∧ decode cX6_gives 67 = .ok (.iload 5, 2) ∧ decode cX6_gives 69 = .ok (.iaload, 1) ∧ decode cX6_gives 70 = .ok (.ifCond .ne 13, 3) ∧ decode cX6_gives 73 = .ok (.aload_n 0, 1) ∧ decode cX6_gives 74 = .ok (.getfield 20, 3) ∧ decode cX6_gives 77 = .ok (.iload 5, 2) ∧ decode cX6_gives 79 = .ok (.iaload, 1) ∧ decode cX6_gives 80 = .ok (.goto 16, 3) ∧ decode cX6_gives 83 = .ok (.aload_n 0, 1) ∧ decode cX6_gives 84 = .ok (.getfield 20, 3) ∧ decode cX6_gives 87 = .ok (.iload 5, 2) ∧ decode cX6_gives 89 = .ok (.iaload, 1) ∧ decode cX6_gives 90 = .ok (.iload_n 1, 1) := by decide +kernel
theorem dX6_gives_61 : decode cX6_gives 61 = .ok (.iload 4, 2) := dgX6_gives_2.1
theorem dX6_gives_63 : decode cX6_gives 63 = .ok (.aload_n 0, 1) := dgX6_gives_2.2.1
theorem dX6_gives_64 : decode cX6_gives 64 = .ok (.getfield 16, 3) := dgX6_gives_2.2.2.1
theorem dX6_gives_67 : decode cX6_gives 67 = .ok (.iload 5, 2) := dgX6_gives_2.2.2.2.1
theorem dX6_gives_69 : decode cX6_gives 69 = .ok (.iaload, 1) := dgX6_gives_2.2.2.2.2.1
theorem dX6_gives_70 : decode cX6_gives 70 = .ok (.ifCond .ne 13, 3) := dgX6_gives_2.2.2.2.2.2.1
theorem dX6_gives_73 : decode cX6_gives 73 = .ok (.aload_n 0, 1) := dgX6_gives_2.2.2.2.2.2.2.1
theorem dX6_gives_74 : decode cX6_gives 74 = .ok (.getfield 20, 3) := dgX6_gives_2.2.2.2.2.2.2.2.1
theorem dX6_gives_77 : decode cX6_gives 77 = .ok (.iload 5, 2) := dgX6_gives_2.2.2.2.2.2.2.2.2.1
theorem dX6_gives_79 : decode cX6_gives 79 = .ok (.iaload, 1) := dgX6_gives_2.2.2.2.2.2.2.2.2.2.1
theorem dX6_gives_80 : decode cX6_gives 80 = .ok (.goto 16, 3) := dgX6_gives_2.2.2.2.2.2.2.2.2.2.2.1
theorem dX6_gives_83 : decode cX6_gives 83 = .ok (.aload_n 0, 1) := dgX6_gives_2.2.2.2.2.2.2.2.2.2.2.2.1
theorem dX6_gives_84 : decode cX6_gives 84 = .ok (.getfield 20, 3) := dgX6_gives_2.2.2.2.2.2.2.2.2.2.2.2.2.1
theorem dX6_gives_87 : decode cX6_gives 87 = .ok (.iload 5, 2) := dgX6_gives_2.2.2.2.2.2.2.2.2.2.2.2.2.2.1
theorem dX6_gives_89 : decode cX6_gives 89 = .ok (.iaload, 1) := dgX6_gives_2.2.2.2.2.2.2.2.2.2.2.2.2.2.2.1
theorem dX6_gives_90 : decode cX6_gives 90 = .ok (.iload_n 1, 1) := dgX6_gives_2.2.2.2.2.2.2.2.2.2.2.2.2.2.2.2
theorem dgX6_gives_3 : decode cX6_gives 91 = .ok (.iload_n 2, 1) ∧ decode cX6_gives 92 = .ok (.iload_n 3, 1) ∧ decode cX6_gives 93 = .ok (.invokestatic 26, 3) ∧ decode cX6_gives 96 = .ok (.iastore, 1) ∧ decode cX6_gives 97 = .ok (.iinc 4 1, 3) ∧ decode cX6_gives 100 = .ok (.goto 96, 3) ∧ decode cX6_gives 103 = .ok (.aload_n 0, 1) ∧ decode cX6_gives 104 = .ok (.getfield 16, 3) ∧ decode cX6_gives 107 = .ok (.iload 5, 2) ∧ decode cX6_gives 109 = .ok (.iaload, 1) ∧ decode cX6_gives 110 = .ok (.bipush 33, 2) ∧ decode cX6_gives 112 = .ok (.if_icmp .ne 40, 3) ∧ decode cX6_gives 115 = .ok (.iload 4, 2) ∧ decode cX6_gives 117 = .ok (.ifCond .le 79, 3) ∧ decode cX6_gives 120 = .ok (.aload_n 0, 1) ∧ decode cX6_gives 121 = .ok (.getfield 23, 3) := by decide +kernel
theorem dX6_gives_91 : decode cX6_gives 91 = .ok (.iload_n 2, 1) := dgX6_gives_3.1
theorem dX6_gives_92 : decode cX6_gives 92 = .ok (.iload_n 3, 1) := dgX6_gives_3.2.1
theorem dX6_gives_93 : decode cX6_gives 93 = .ok (.invokestatic 26, 3) := dgX6_gives_3.2.2.1
theorem dX6_gives_96 : decode cX6_gives 96 = .ok (.iastore, 1) := dgX6_gives_3.2.2.2.1
theorem dX6_gives_97 : decode cX6_gives 97 = .ok (.iinc 4 1, 3) := dgX6_gives_3.2.2.2.2.1
theorem dX6_gives_100 : decode cX6_gives 100 = .ok (.goto 96, 3) := dgX6_gives_3.2.2.2.2.2.1
theorem dX6_gives_103 : decode cX6_gives 103 = .ok (.aload_n 0, 1) := dgX6_gives_3.2.2.2.2.2.2.1
theorem dX6_gives_104 : decode cX6_gives 104 = .ok (.getfield 16, 3) := dgX6_gives_3.2.2.2.2.2.2.2.1
theorem dX6_gives_107 : decode cX6_gives 107 = .ok (.iload 5, 2) := dgX6_gives_3.2.2.2.2.2.2.2.2.1
theorem dX6_gives_109 : decode cX6_gives 109 = .ok (.iaload, 1) := dgX6_gives_3.2.2.2.2.2.2.2.2.2.1
theorem dX6_gives_110 : decode cX6_gives 110 = .ok (.bipush 33, 2) := dgX6_gives_3.2.2.2.2.2.2.2.2.2.2.1
theorem dX6_gives_112 : decode cX6_gives 112 = .ok (.if_icmp .ne 40, 3) := dgX6_gives_3.2.2.2.2.2.2.2.2.2.2.2.1
theorem dX6_gives_115 : decode cX6_gives 115 = .ok (.iload 4, 2) := dgX6_gives_3.2.2.2.2.2.2.2.2.2.2.2.2.1
theorem dX6_gives_117 : decode cX6_gives 117 = .ok (.ifCond .le 79, 3) := dgX6_gives_3.2.2.2.2.2.2.2.2.2.2.2.2.2.1
theorem dX6_gives_120 : decode cX6_gives 120 = .ok (.aload_n 0, 1) := dgX6_gives_3.2.2.2.2.2.2.2.2.2.2.2.2.2.2.1
theorem dX6_gives_121 : decode cX6_gives 121 = .ok (.getfield 23, 3) := dgX6_gives_3.2.2.2.2.2.2.2.2.2.2.2.2.2.2.2
theorem dgX6_gives_4 : decode cX6_gives 124 = .ok (.iload 4, 2) ∧ decode cX6_gives 126 = .ok (.iconst 1, 1) ∧ decode cX6_gives 127 = .ok (.isub, 1) ∧ decode cX6_gives 128 = .ok (.aload_n 0, 1) ∧ decode cX6_gives 129 = .ok (.getfield 23, 3) ∧ decode cX6_gives 132 = .ok (.iload 4, 2) ∧ decode cX6_gives 134 = .ok (.iconst 1, 1) ∧ decode cX6_gives 135 = .ok (.isub, 1) ∧ decode cX6_gives 136 = .ok (.iaload, 1) ∧ decode cX6_gives 137 = .ok (.ifCond .ne 7, 3) ∧ decode cX6_gives 140 = .ok (.iconst 1, 1) ∧ decode cX6_gives 141 = .ok (.goto 4, 3) ∧ decode cX6_gives 144 = .ok (.iconst 0, 1) ∧ decode cX6_gives 145 = .ok (.invokestatic 30, 3) ∧ decode cX6_gives 148 = .ok (.iastore, 1) ∧ decode cX6_gives 149 = .ok (.goto 47, 3) := by decide +kernel
theorem dX6_gives_124 : decode cX6_gives 124 = .ok (.iload 4, 2) := dgX6_gives_4.1
theorem dX6_gives_126 : decode cX6_gives 126 = .ok (.iconst 1, 1) := dgX6_gives_4.2.1
theorem dX6_gives_127 : decode cX6_gives 127 = .ok (.isub, 1) := dgX6_gives_4.2.2.1
theorem dX6_gives_128 : decode cX6_gives 128 = .ok (.aload_n 0, 1) := dgX6_gives_4.2.2.2.1
theorem dX6_gives_129 : decode cX6_gives 129 = .ok (.getfield 23, 3) := dgX6_gives_4.2.2.2.2.1
theorem dX6_gives_132 : decode cX6_gives 132 = .ok (.iload 4, 2) := dgX6_gives_4.2.2.2.2.2.1
theorem dX6_gives_134 : decode cX6_gives 134 = .ok (.iconst 1, 1) := dgX6_gives_4.2.2.2.2.2.2.1
theorem dX6_gives_135 : decode cX6_gives 135 = .ok (.isub, 1) := dgX6_gives_4.2.2.2.2.2.2.2.1
theorem dX6_gives_136 : decode cX6_gives 136 = .ok (.iaload, 1) := dgX6_gives_4.2.2.2.2.2.2.2.2.1
theorem dX6_gives_137 : decode cX6_gives 137 = .ok (.ifCond .ne 7, 3) := dgX6_gives_4.2.2.2.2.2.2.2.2.2.1
theorem dX6_gives_140 : decode cX6_gives 140 = .ok (.iconst 1, 1) := dgX6_gives_4.2.2.2.2.2.2.2.2.2.2.1
theorem dX6_gives_141 : decode cX6_gives 141 = .ok (.goto 4, 3) := dgX6_gives_4.2.2.2.2.2.2.2.2.2.2.2.1
theorem dX6_gives_144 : decode cX6_gives 144 = .ok (.iconst 0, 1) := dgX6_gives_4.2.2.2.2.2.2.2.2.2.2.2.2.1
theorem dX6_gives_145 : decode cX6_gives 145 = .ok (.invokestatic 30, 3) := dgX6_gives_4.2.2.2.2.2.2.2.2.2.2.2.2.2.1
theorem dX6_gives_148 : decode cX6_gives 148 = .ok (.iastore, 1) := dgX6_gives_4.2.2.2.2.2.2.2.2.2.2.2.2.2.2.1
theorem dX6_gives_149 : decode cX6_gives 149 = .ok (.goto 47, 3) := dgX6_gives_4.2.2.2.2.2.2.2.2.2.2.2.2.2.2.2
theorem dgX6_gives_5 : decode cX6_gives 152 = .ok (.iload 4, 2) ∧ decode cX6_gives 154 = .ok (.iconst 1, 1) ∧ decode cX6_gives 155 = .ok (.if_icmp .le 41, 3) ∧ decode cX6_gives 158 = .ok (.iinc 4 (-1), 3) ∧ decode cX6_gives 161 = .ok (.aload_n 0, 1) ∧ decode cX6_gives 162 = .ok (.getfield 23, 3) ∧ decode cX6_gives 165 = .ok (.iload 4, 2) ∧ decode cX6_gives 167 = .ok (.iconst 1, 1) ∧ decode cX6_gives 168 = .ok (.isub, 1) ∧ decode cX6_gives 169 = .ok (.aload_n 0, 1) ∧ decode cX6_gives 170 = .ok (.getfield 16, 3) ∧ decode cX6_gives 173 = .ok (.iload 5, 2) ∧ decode cX6_gives 175 = .ok (.iaload, 1) ∧ decode cX6_gives 176 = .ok (.aload_n 0, 1) ∧ decode cX6_gives 177 = .ok (.getfield 23, 3) ∧ decode cX6_gives 180 = .ok (.iload 4, 2) := by decide +kernel
theorem dX6_gives_152 : decode cX6_gives 152 = .ok (.iload 4, 2) := dgX6_gives_5.1
theorem dX6_gives_154 : decode cX6_gives 154 = .ok (.iconst 1, 1) := dgX6_gives_5.2.1
theorem dX6_gives_155 : decode cX6_gives 155 = .ok (.if_icmp .le 41, 3) := dgX6_gives_5.2.2.1
theorem dX6_gives_158 : decode cX6_gives 158 = .ok (.iinc 4 (-1), 3) := dgX6_gives_5.2.2.2.1
theorem dX6_gives_161 : decode cX6_gives 161 = .ok (.aload_n 0, 1) := dgX6_gives_5.2.2.2.2.1
theorem dX6_gives_162 : decode cX6_gives 162 = .ok (.getfield 23, 3) := dgX6_gives_5.2.2.2.2.2.1
theorem dX6_gives_165 : decode cX6_gives 165 = .ok (.iload 4, 2) := dgX6_gives_5.2.2.2.2.2.2.1
theorem dX6_gives_167 : decode cX6_gives 167 = .ok (.iconst 1, 1) := dgX6_gives_5.2.2.2.2.2.2.2.1
theorem dX6_gives_168 : decode cX6_gives 168 = .ok (.isub, 1) := dgX6_gives_5.2.2.2.2.2.2.2.2.1
theorem dX6_gives_169 : decode cX6_gives 169 = .ok (.aload_n 0, 1) := dgX6_gives_5.2.2.2.2.2.2.2.2.2.1
theorem dX6_gives_170 : decode cX6_gives 170 = .ok (.getfield 16, 3) := dgX6_gives_5.2.2.2.2.2.2.2.2.2.2.1
theorem dX6_gives_173 : decode cX6_gives 173 = .ok (.iload 5, 2) := dgX6_gives_5.2.2.2.2.2.2.2.2.2.2.2.1
theorem dX6_gives_175 : decode cX6_gives 175 = .ok (.iaload, 1) := dgX6_gives_5.2.2.2.2.2.2.2.2.2.2.2.2.1
theorem dX6_gives_176 : decode cX6_gives 176 = .ok (.aload_n 0, 1) := dgX6_gives_5.2.2.2.2.2.2.2.2.2.2.2.2.2.1
theorem dX6_gives_177 : decode cX6_gives 177 = .ok (.getfield 23, 3) := dgX6_gives_5.2.2.2.2.2.2.2.2.2.2.2.2.2.2.1
theorem dX6_gives_180 : decode cX6_gives 180 = .ok (.iload 4, 2) := dgX6_gives_5.2.2.2.2.2.2.2.2.2.2.2.2.2.2.2
theorem dgX6_gives_6 : decode cX6_gives 182 = .ok (.iconst 1, 1) ∧ decode cX6_gives 183 = .ok (.isub, 1) ∧ decode cX6_gives 184 = .ok (.iaload, 1) ∧ decode cX6_gives 185 = .ok (.aload_n 0, 1) ∧ decode cX6_gives 186 = .ok (.getfield 23, 3) ∧ decode cX6_gives 189 = .ok (.iload 4, 2) ∧ decode cX6_gives 191 = .ok (.iaload, 1) ∧ decode cX6_gives 192 = .ok (.invokestatic 34, 3) ∧ decode cX6_gives 195 = .ok (.iastore, 1) ∧ decode cX6_gives 196 = .ok (.iinc 5 1, 3) ∧ decode cX6_gives 199 = .ok (.goto (-193), 3) ∧ decode cX6_gives 202 = .ok (.iload 4, 2) ∧ decode cX6_gives 204 = .ok (.ifCond .le 12, 3) ∧ decode cX6_gives 207 = .ok (.aload_n 0, 1) ∧ decode cX6_gives 208 = .ok (.getfield 23, 3) ∧ decode cX6_gives 211 = .ok (.iconst 0, 1) := by decide +kernel
theorem dX6_gives_182 : decode cX6_gives 182 = .ok (.iconst 1, 1) := dgX6_gives_6.1
theorem dX6_gives_183 : decode cX6_gives 183 = .ok (.isub, 1) := dgX6_gives_6.2.1
theorem dX6_gives_184 : decode cX6_gives 184 = .ok (.iaload, 1) := dgX6_gives_6.2.2.1
theorem dX6_gives_185 : decode cX6_gives 185 = .ok (.aload_n 0, 1) := dgX6_gives_6.2.2.2.1
theorem dX6_gives_186 : decode cX6_gives 186 = .ok (.getfield 23, 3) := dgX6_gives_6.2.2.2.2.1
theorem dX6_gives_189 : decode cX6_gives 189 = .ok (.iload 4, 2) := dgX6_gives_6.2.2.2.2.2.1
theorem dX6_gives_191 : decode cX6_gives 191 = .ok (.iaload, 1) := dgX6_gives_6.2.2.2.2.2.2.1
theorem dX6_gives_192 : decode cX6_gives 192 = .ok (.invokestatic 34, 3) := dgX6_gives_6.2.2.2.2.2.2.2.1
theorem dX6_gives_195 : decode cX6_gives 195 = .ok (.iastore, 1) := dgX6_gives_6.2.2.2.2.2.2.2.2.1
theorem dX6_gives_196 : decode cX6_gives 196 = .ok (.iinc 5 1, 3) := dgX6_gives_6.2.2.2.2.2.2.2.2.2.1
theorem dX6_gives_199 : decode cX6_gives 199 = .ok (.goto (-193), 3) := dgX6_gives_6.2.2.2.2.2.2.2.2.2.2.1
theorem dX6_gives_202 : decode cX6_gives 202 = .ok (.iload 4, 2) := dgX6_gives_6.2.2.2.2.2.2.2.2.2.2.2.1
theorem dX6_gives_204 : decode cX6_gives 204 = .ok (.ifCond .le 12, 3) := dgX6_gives_6.2.2.2.2.2.2.2.2.2.2.2.2.1
theorem dX6_gives_207 : decode cX6_gives 207 = .ok (.aload_n 0, 1) := dgX6_gives_6.2.2.2.2.2.2.2.2.2.2.2.2.2.1
theorem dX6_gives_208 : decode cX6_gives 208 = .ok (.getfield 23, 3) := dgX6_gives_6.2.2.2.2.2.2.2.2.2.2.2.2.2.2.1
theorem dX6_gives_211 : decode cX6_gives 211 = .ok (.iconst 0, 1) := dgX6_gives_6.2.2.2.2.2.2.2.2.2.2.2.2.2.2.2
theorem dgX6_gives_7 : decode cX6_gives 212 = .ok (.iaload, 1) ∧ decode cX6_gives 213 = .ok (.goto 4, 3) ∧ decode cX6_gives 216 = .ok (.iconst 0, 1) ∧ decode cX6_gives 217 = .ok (.ireturn, 1) := by decide +kernel
theorem dX6_gives_212 : decode cX6_gives 212 = .ok (.iaload, 1) := dgX6_gives_7.1
theorem dX6_gives_213 : decode cX6_gives 213 = .ok (.goto 4, 3) := dgX6_gives_7.2.1
theorem dX6_gives_216 : decode cX6_gives 216 = .ok (.iconst 0, 1) := dgX6_gives_7.2.2.1
theorem dX6_gives_217 : decode cX6_gives 217 = .ok (.ireturn, 1) := dgX6_gives_7.2.2.2
abbrev pX6_gives : List Nat := [0, 6, 47, 83, 96, 103, 144, 145, 152, 196, 202, 216, 217]
def bX6_gives_0 (cal : ab_F) : ab_K := o_push (.int 0) <| o_istore 4 <| o_push (.int 0) <| o_istore 5 <| o_goto 1
def bX6_gives_1 (cal : ab_F) : ab_K := o_iload 5 <| o_aload 0 <| o_getf 5 2 <| o_alenI 0 <| o_cmp (fun x y => decide (y ≤ x)) 10 <| o_iload 5 <| o_aload 0 <| o_getf 5 3 <| o_alenI 0 <| o_cmp (fun x y => decide (y ≤ x)) 10 <| o_aload 0 <| o_getf 5 2 <| o_iload 5 <| o_iald 0 <| o_if (fun x => decide (x = 0)) 2 <| o_aload 0 <| o_getf 5 2 <| o_iload 5 <| o_iald 0 <| o_push (.int 1) <| o_cmp (fun x y => decide (¬ x = y)) 5 <| o_goto 2
def bX6_gives_2 (cal : ab_F) : ab_K := o_iload 4 <| o_aload 0 <| o_getf 5 4 <| o_alenI 0 <| o_cmp (fun x y => decide (y ≤ x)) 9 <| o_aload 0 <| o_getf 5 4 <| o_iload 4 <| o_aload 0 <| o_getf 5 2 <| o_iload 5 <| o_iald 0 <| o_if (fun x => decide (¬ x = 0)) 3 <| o_aload 0 <| o_getf 5 3 <| o_iload 5 <| o_iald 0 <| o_goto 4
def bX6_gives_3 (cal : ab_F) : ab_K := o_aload 0 <| o_getf 5 3 <| o_iload 5 <| o_iald 0 <| o_iload 1 <| o_iload 2 <| o_iload 3 <| o_callS cal 64 4 <| o_goto 4
def bX6_gives_4 (cal : ab_F) : ab_K := o_iast 0 (fun x => x) <| o_iinc 4 1 <| o_goto 9
def bX6_gives_5 (cal : ab_F) : ab_K := o_aload 0 <| o_getf 5 2 <| o_iload 5 <| o_iald 0 <| o_push (.int 33) <| o_cmp (fun x y => decide (¬ x = y)) 8 <| o_iload 4 <| o_if (fun x => decide (x ≤ 0)) 9 <| o_aload 0 <| o_getf 5 4 <| o_iload 4 <| o_push (.int 1) <| o_bin (fun x y => x - y) <| o_aload 0 <| o_getf 5 4 <| o_iload 4 <| o_push (.int 1) <| o_bin (fun x y => x - y) <| o_iald 0 <| o_if (fun x => decide (¬ x = 0)) 6 <| o_push (.int 1) <| o_goto 7
def bX6_gives_6 (cal : ab_F) : ab_K := o_push (.int 0) <| o_goto 7
def bX6_gives_7 (cal : ab_F) : ab_K := o_callS cal 66 1 <| o_iast 0 (fun x => x) <| o_goto 9
def bX6_gives_8 (cal : ab_F) : ab_K := o_iload 4 <| o_push (.int 1) <| o_cmp (fun x y => decide (x ≤ y)) 9 <| o_iinc 4 (-1) <| o_aload 0 <| o_getf 5 4 <| o_iload 4 <| o_push (.int 1) <| o_bin (fun x y => x - y) <| o_aload 0 <| o_getf 5 2 <| o_iload 5 <| o_iald 0 <| o_aload 0 <| o_getf 5 4 <| o_iload 4 <| o_push (.int 1) <| o_bin (fun x y => x - y) <| o_iald 0 <| o_aload 0 <| o_getf 5 4 <| o_iload 4 <| o_iald 0 <| o_callS cal 65 3 <| o_iast 0 (fun x => x) <| o_goto 9
def bX6_gives_9 (cal : ab_F) : ab_K := o_iinc 5 1 <| o_goto 1
def bX6_gives_10 (cal : ab_F) : ab_K := o_iload 4 <| o_if (fun x => decide (x ≤ 0)) 11 <| o_aload 0 <| o_getf 5 4 <| o_push (.int 0) <| o_iald 0 <| o_goto 12
def bX6_gives_11 (cal : ab_F) : ab_K := o_push (.int 0) <| o_goto 12
def bX6_gives_12 (cal : ab_F) : ab_K := o_ret (some .int)
def bX6_gives (cal : ab_F) : List ab_K := [bX6_gives_0 cal, bX6_gives_1 cal, bX6_gives_2 cal, bX6_gives_3 cal, bX6_gives_4 cal, bX6_gives_5 cal, bX6_gives_6 cal, bX6_gives_7 cal, bX6_gives_8 cal, bX6_gives_9 cal, bX6_gives_10 cal, bX6_gives_11 cal, bX6_gives_12 cal]
set_option maxRecDepth 100000 in
theorem sX6_gives_0 {G : ab_G} {xs : List Int32} {d : Nat} {cal : ab_F} (hcs : ab_CS G (ab_Z G xs) ab_Mf cal d) : ab_Sd G (ab_Z G xs) (d + 1) (ab_mY mX6_gives pX6_gives) 0 (bX6_gives_0 cal) :=
  sn_iconst dX6_gives_0 rfl <| sn_istore dX6_gives_1 (by decide) <| sn_iconst dX6_gives_3 rfl <| sn_istore dX6_gives_4 (by decide) <| sn_next rfl
set_option maxRecDepth 100000 in
theorem sX6_gives_1 {G : ab_G} {xs : List Int32} {d : Nat} {cal : ab_F} (hcs : ab_CS G (ab_Z G xs) ab_Mf cal d) : ab_Sd G (ab_Z G xs) (d + 1) (ab_mY mX6_gives pX6_gives) 6 (bX6_gives_1 cal) :=
  sn_iload dX6_gives_6 <| sn_aload_n dX6_gives_8 rfl <| sn_getf dX6_gives_9 rfl hinX6 (by decide) w_860 <| sn_alenI dX6_gives_12 rfl <| sn_cmp_ge (tg := 202) dX6_gives_13 rfl rfl <| sn_iload dX6_gives_16 <| sn_aload_n dX6_gives_18 rfl <| sn_getf dX6_gives_19 rfl hinX6 (by decide) w_861 <| sn_alenI dX6_gives_22 rfl <| sn_cmp_ge (tg := 202) dX6_gives_23 rfl rfl <| sn_aload_n dX6_gives_26 rfl <| sn_getf dX6_gives_27 rfl hinX6 (by decide) w_860 <| sn_iload dX6_gives_30 <| sn_iald dX6_gives_32 rfl <| sn_if_eq (tg := 47) dX6_gives_33 rfl rfl <| sn_aload_n dX6_gives_36 rfl <| sn_getf dX6_gives_37 rfl hinX6 (by decide) w_860 <| sn_iload dX6_gives_40 <| sn_iald dX6_gives_42 rfl <| sn_iconst dX6_gives_43 rfl <| sn_cmp_ne (tg := 103) dX6_gives_44 rfl rfl <| sn_next rfl
set_option maxRecDepth 100000 in
theorem sX6_gives_2 {G : ab_G} {xs : List Int32} {d : Nat} {cal : ab_F} (hcs : ab_CS G (ab_Z G xs) ab_Mf cal d) : ab_Sd G (ab_Z G xs) (d + 1) (ab_mY mX6_gives pX6_gives) 47 (bX6_gives_2 cal) :=
  sn_iload dX6_gives_47 <| sn_aload_n dX6_gives_49 rfl <| sn_getf dX6_gives_50 rfl hinX6 (by decide) w_862 <| sn_alenI dX6_gives_53 rfl <| sn_cmp_ge (tg := 196) dX6_gives_54 rfl rfl <| sn_aload_n dX6_gives_57 rfl <| sn_getf dX6_gives_58 rfl hinX6 (by decide) w_862 <| sn_iload dX6_gives_61 <| sn_aload_n dX6_gives_63 rfl <| sn_getf dX6_gives_64 rfl hinX6 (by decide) w_860 <| sn_iload dX6_gives_67 <| sn_iald dX6_gives_69 rfl <| sn_if_ne (tg := 83) dX6_gives_70 rfl rfl <| sn_aload_n dX6_gives_73 rfl <| sn_getf dX6_gives_74 rfl hinX6 (by decide) w_861 <| sn_iload dX6_gives_77 <| sn_iald dX6_gives_79 rfl <| sn_goto (tg := 96) dX6_gives_80 rfl rfl
set_option maxRecDepth 100000 in
theorem sX6_gives_3 {G : ab_G} {xs : List Int32} {d : Nat} {cal : ab_F} (hcs : ab_CS G (ab_Z G xs) ab_Mf cal d) : ab_Sd G (ab_Z G xs) (d + 1) (ab_mY mX6_gives pX6_gives) 83 (bX6_gives_3 cal) :=
  sn_aload_n dX6_gives_83 rfl <| sn_getf dX6_gives_84 rfl hinX6 (by decide) w_861 <| sn_iload dX6_gives_87 <| sn_iald dX6_gives_89 rfl <| sn_iload_n dX6_gives_90 rfl <| sn_iload_n dX6_gives_91 rfl <| sn_iload_n dX6_gives_92 rfl <| sq_callS mt_64 hcs dX6_gives_93 w_359 w_360 w_65 w_361 hy_64 hm_64 <| sn_next rfl
set_option maxRecDepth 100000 in
theorem sX6_gives_4 {G : ab_G} {xs : List Int32} {d : Nat} {cal : ab_F} (hcs : ab_CS G (ab_Z G xs) ab_Mf cal d) : ab_Sd G (ab_Z G xs) (d + 1) (ab_mY mX6_gives pX6_gives) 96 (bX6_gives_4 cal) :=
  sn_iast dX6_gives_96 rfl rfl <| sn_iinc dX6_gives_97 rfl (by decide) <| sn_goto (tg := 196) dX6_gives_100 rfl rfl
set_option maxRecDepth 100000 in
theorem sX6_gives_5 {G : ab_G} {xs : List Int32} {d : Nat} {cal : ab_F} (hcs : ab_CS G (ab_Z G xs) ab_Mf cal d) : ab_Sd G (ab_Z G xs) (d + 1) (ab_mY mX6_gives pX6_gives) 103 (bX6_gives_5 cal) :=
  sn_aload_n dX6_gives_103 rfl <| sn_getf dX6_gives_104 rfl hinX6 (by decide) w_860 <| sn_iload dX6_gives_107 <| sn_iald dX6_gives_109 rfl <| sn_bipush dX6_gives_110 rfl <| sn_cmp_ne (tg := 152) dX6_gives_112 rfl rfl <| sn_iload dX6_gives_115 <| sn_if_le (tg := 196) dX6_gives_117 rfl rfl <| sn_aload_n dX6_gives_120 rfl <| sn_getf dX6_gives_121 rfl hinX6 (by decide) w_862 <| sn_iload dX6_gives_124 <| sn_iconst dX6_gives_126 rfl <| sn_isub dX6_gives_127 <| sn_aload_n dX6_gives_128 rfl <| sn_getf dX6_gives_129 rfl hinX6 (by decide) w_862 <| sn_iload dX6_gives_132 <| sn_iconst dX6_gives_134 rfl <| sn_isub dX6_gives_135 <| sn_iald dX6_gives_136 rfl <| sn_if_ne (tg := 144) dX6_gives_137 rfl rfl <| sn_iconst dX6_gives_140 rfl <| sn_goto (tg := 145) dX6_gives_141 rfl rfl
set_option maxRecDepth 100000 in
theorem sX6_gives_6 {G : ab_G} {xs : List Int32} {d : Nat} {cal : ab_F} (hcs : ab_CS G (ab_Z G xs) ab_Mf cal d) : ab_Sd G (ab_Z G xs) (d + 1) (ab_mY mX6_gives pX6_gives) 144 (bX6_gives_6 cal) :=
  sn_iconst dX6_gives_144 rfl <| sn_next rfl
set_option maxRecDepth 100000 in
theorem sX6_gives_7 {G : ab_G} {xs : List Int32} {d : Nat} {cal : ab_F} (hcs : ab_CS G (ab_Z G xs) ab_Mf cal d) : ab_Sd G (ab_Z G xs) (d + 1) (ab_mY mX6_gives pX6_gives) 145 (bX6_gives_7 cal) :=
  sq_callS mt_66 hcs dX6_gives_145 w_362 w_363 w_65 w_364 hy_66 hm_66 <| sn_iast dX6_gives_148 rfl rfl <| sn_goto (tg := 196) dX6_gives_149 rfl rfl
set_option maxRecDepth 100000 in
theorem sX6_gives_8 {G : ab_G} {xs : List Int32} {d : Nat} {cal : ab_F} (hcs : ab_CS G (ab_Z G xs) ab_Mf cal d) : ab_Sd G (ab_Z G xs) (d + 1) (ab_mY mX6_gives pX6_gives) 152 (bX6_gives_8 cal) :=
  sn_iload dX6_gives_152 <| sn_iconst dX6_gives_154 rfl <| sn_cmp_le (tg := 196) dX6_gives_155 rfl rfl <| sn_iinc dX6_gives_158 rfl (by decide) <| sn_aload_n dX6_gives_161 rfl <| sn_getf dX6_gives_162 rfl hinX6 (by decide) w_862 <| sn_iload dX6_gives_165 <| sn_iconst dX6_gives_167 rfl <| sn_isub dX6_gives_168 <| sn_aload_n dX6_gives_169 rfl <| sn_getf dX6_gives_170 rfl hinX6 (by decide) w_860 <| sn_iload dX6_gives_173 <| sn_iald dX6_gives_175 rfl <| sn_aload_n dX6_gives_176 rfl <| sn_getf dX6_gives_177 rfl hinX6 (by decide) w_862 <| sn_iload dX6_gives_180 <| sn_iconst dX6_gives_182 rfl <| sn_isub dX6_gives_183 <| sn_iald dX6_gives_184 rfl <| sn_aload_n dX6_gives_185 rfl <| sn_getf dX6_gives_186 rfl hinX6 (by decide) w_862 <| sn_iload dX6_gives_189 <| sn_iald dX6_gives_191 rfl <| sq_callS mt_65 hcs dX6_gives_192 w_365 w_366 w_65 w_367 hy_65 hm_65 <| sn_iast dX6_gives_195 rfl rfl <| sn_next rfl
set_option maxRecDepth 100000 in
theorem sX6_gives_9 {G : ab_G} {xs : List Int32} {d : Nat} {cal : ab_F} (hcs : ab_CS G (ab_Z G xs) ab_Mf cal d) : ab_Sd G (ab_Z G xs) (d + 1) (ab_mY mX6_gives pX6_gives) 196 (bX6_gives_9 cal) :=
  sn_iinc dX6_gives_196 rfl (by decide) <| sn_goto (tg := 6) dX6_gives_199 rfl rfl
set_option maxRecDepth 100000 in
theorem sX6_gives_10 {G : ab_G} {xs : List Int32} {d : Nat} {cal : ab_F} (hcs : ab_CS G (ab_Z G xs) ab_Mf cal d) : ab_Sd G (ab_Z G xs) (d + 1) (ab_mY mX6_gives pX6_gives) 202 (bX6_gives_10 cal) :=
  sn_iload dX6_gives_202 <| sn_if_le (tg := 216) dX6_gives_204 rfl rfl <| sn_aload_n dX6_gives_207 rfl <| sn_getf dX6_gives_208 rfl hinX6 (by decide) w_862 <| sn_iconst dX6_gives_211 rfl <| sn_iald dX6_gives_212 rfl <| sn_goto (tg := 217) dX6_gives_213 rfl rfl
set_option maxRecDepth 100000 in
theorem sX6_gives_11 {G : ab_G} {xs : List Int32} {d : Nat} {cal : ab_F} (hcs : ab_CS G (ab_Z G xs) ab_Mf cal d) : ab_Sd G (ab_Z G xs) (d + 1) (ab_mY mX6_gives pX6_gives) 216 (bX6_gives_11 cal) :=
  sn_iconst dX6_gives_216 rfl <| sn_next rfl
set_option maxRecDepth 100000 in
theorem sX6_gives_12 {G : ab_G} {xs : List Int32} {d : Nat} {cal : ab_F} (hcs : ab_CS G (ab_Z G xs) ab_Mf cal d) : ab_Sd G (ab_Z G xs) (d + 1) (ab_mY mX6_gives pX6_gives) 217 (bX6_gives_12 cal) :=
  sn_ret dX6_gives_217 ab_ri_int
theorem sX6_gives {G : ab_G} {xs : List Int32} {d : Nat} {cal : ab_F} (hcs : ab_CS G (ab_Z G xs) ab_Mf cal d) : ab_BS G (ab_Z G xs) (d + 1) (ab_mY mX6_gives pX6_gives) pX6_gives (bX6_gives cal) := ⟨sX6_gives_0 hcs, sX6_gives_1 hcs, sX6_gives_2 hcs, sX6_gives_3 hcs, sX6_gives_4 hcs, sX6_gives_5 hcs, sX6_gives_6 hcs, sX6_gives_7 hcs, sX6_gives_8 hcs, sX6_gives_9 hcs, sX6_gives_10 hcs, sX6_gives_11 hcs, sX6_gives_12 hcs, trivial⟩
theorem dgX6_named_0 : decode cX6_named 0 = .ok (.iload_n 0, 1) ∧ decode cX6_named 1 = .ok (.ifCond .ne 7, 3) ∧ decode cX6_named 4 = .ok (.iload_n 1, 1) ∧ decode cX6_named 5 = .ok (.goto 13, 3) ∧ decode cX6_named 8 = .ok (.iload_n 0, 1) ∧ decode cX6_named 9 = .ok (.iconst 1, 1) ∧ decode cX6_named 10 = .ok (.if_icmp .ne 7, 3) ∧ decode cX6_named 13 = .ok (.iload_n 2, 1) ∧ decode cX6_named 14 = .ok (.goto 4, 3) ∧ decode cX6_named 17 = .ok (.iload_n 3, 1) ∧ decode cX6_named 18 = .ok (.ireturn, 1) := by decide +kernel
theorem dX6_named_0 : decode cX6_named 0 = .ok (.iload_n 0, 1) := dgX6_named_0.1
theorem dX6_named_1 : decode cX6_named 1 = .ok (.ifCond .ne 7, 3) := dgX6_named_0.2.1
theorem dX6_named_4 : decode cX6_named 4 = .ok (.iload_n 1, 1) := dgX6_named_0.2.2.1
theorem dX6_named_5 : decode cX6_named 5 = .ok (.goto 13, 3) := dgX6_named_0.2.2.2.1
theorem dX6_named_8 : decode cX6_named 8 = .ok (.iload_n 0, 1) := dgX6_named_0.2.2.2.2.1
theorem dX6_named_9 : decode cX6_named 9 = .ok (.iconst 1, 1) := dgX6_named_0.2.2.2.2.2.1
theorem dX6_named_10 : decode cX6_named 10 = .ok (.if_icmp .ne 7, 3) := dgX6_named_0.2.2.2.2.2.2.1
theorem dX6_named_13 : decode cX6_named 13 = .ok (.iload_n 2, 1) := dgX6_named_0.2.2.2.2.2.2.2.1
theorem dX6_named_14 : decode cX6_named 14 = .ok (.goto 4, 3) := dgX6_named_0.2.2.2.2.2.2.2.2.1
theorem dX6_named_17 : decode cX6_named 17 = .ok (.iload_n 3, 1) := dgX6_named_0.2.2.2.2.2.2.2.2.2.1
theorem dX6_named_18 : decode cX6_named 18 = .ok (.ireturn, 1) := dgX6_named_0.2.2.2.2.2.2.2.2.2.2
abbrev pX6_named : List Nat := [0, 8, 17, 18]
def bX6_named_0 (cal : ab_F) : ab_K := o_iload 0 <| o_if (fun x => decide (¬ x = 0)) 1 <| o_iload 1 <| o_goto 3
def bX6_named_1 (cal : ab_F) : ab_K := o_iload 0 <| o_push (.int 1) <| o_cmp (fun x y => decide (¬ x = y)) 2 <| o_iload 2 <| o_goto 3
def bX6_named_2 (cal : ab_F) : ab_K := o_iload 3 <| o_goto 3
def bX6_named_3 (cal : ab_F) : ab_K := o_ret (some .int)
def bX6_named (cal : ab_F) : List ab_K := [bX6_named_0 cal, bX6_named_1 cal, bX6_named_2 cal, bX6_named_3 cal]
set_option maxRecDepth 100000 in
theorem sX6_named_0 {G : ab_G} {xs : List Int32} {d : Nat} {cal : ab_F} (hcs : ab_CS G (ab_Z G xs) ab_Mf cal d) : ab_Sd G (ab_Z G xs) (d + 1) (ab_mY mX6_named pX6_named) 0 (bX6_named_0 cal) :=
  sn_iload_n dX6_named_0 rfl <| sn_if_ne (tg := 8) dX6_named_1 rfl rfl <| sn_iload_n dX6_named_4 rfl <| sn_goto (tg := 18) dX6_named_5 rfl rfl
set_option maxRecDepth 100000 in
theorem sX6_named_1 {G : ab_G} {xs : List Int32} {d : Nat} {cal : ab_F} (hcs : ab_CS G (ab_Z G xs) ab_Mf cal d) : ab_Sd G (ab_Z G xs) (d + 1) (ab_mY mX6_named pX6_named) 8 (bX6_named_1 cal) :=
  sn_iload_n dX6_named_8 rfl <| sn_iconst dX6_named_9 rfl <| sn_cmp_ne (tg := 17) dX6_named_10 rfl rfl <| sn_iload_n dX6_named_13 rfl <| sn_goto (tg := 18) dX6_named_14 rfl rfl
set_option maxRecDepth 100000 in
theorem sX6_named_2 {G : ab_G} {xs : List Int32} {d : Nat} {cal : ab_F} (hcs : ab_CS G (ab_Z G xs) ab_Mf cal d) : ab_Sd G (ab_Z G xs) (d + 1) (ab_mY mX6_named pX6_named) 17 (bX6_named_2 cal) :=
  sn_iload_n dX6_named_17 rfl <| sn_next rfl
set_option maxRecDepth 100000 in
theorem sX6_named_3 {G : ab_G} {xs : List Int32} {d : Nat} {cal : ab_F} (hcs : ab_CS G (ab_Z G xs) ab_Mf cal d) : ab_Sd G (ab_Z G xs) (d + 1) (ab_mY mX6_named pX6_named) 18 (bX6_named_3 cal) :=
  sn_ret dX6_named_18 ab_ri_int
theorem sX6_named {G : ab_G} {xs : List Int32} {d : Nat} {cal : ab_F} (hcs : ab_CS G (ab_Z G xs) ab_Mf cal d) : ab_BS G (ab_Z G xs) (d + 1) (ab_mY mX6_named pX6_named) pX6_named (bX6_named cal) := ⟨sX6_named_0 hcs, sX6_named_1 hcs, sX6_named_2 hcs, sX6_named_3 hcs, trivial⟩
theorem dgX6_joined_0 : decode cX6_joined 0 = .ok (.iload_n 0, 1) ∧ decode cX6_joined 1 = .ok (.tableswitch 198 38 62 #[181, 198, 198, 198, 123, 115, 198, 119, 198, 127, 198, 198, 198, 198, 198, 198, 198, 198, 198, 198, 198, 198, 139, 153, 167], 115) ∧ decode cX6_joined 116 = .ok (.iload_n 1, 1) ∧ decode cX6_joined 117 = .ok (.iload_n 2, 1) ∧ decode cX6_joined 118 = .ok (.iadd, 1) ∧ decode cX6_joined 119 = .ok (.ireturn, 1) ∧ decode cX6_joined 120 = .ok (.iload_n 1, 1) ∧ decode cX6_joined 121 = .ok (.iload_n 2, 1) ∧ decode cX6_joined 122 = .ok (.isub, 1) ∧ decode cX6_joined 123 = .ok (.ireturn, 1) ∧ decode cX6_joined 124 = .ok (.iload_n 1, 1) ∧ decode cX6_joined 125 = .ok (.iload_n 2, 1) ∧ decode cX6_joined 126 = .ok (.imul, 1) ∧ decode cX6_joined 127 = .ok (.ireturn, 1) ∧ decode cX6_joined 128 = .ok (.iload_n 2, 1) ∧ decode cX6_joined 129 = .ok (.ifCond .ne 7, 3) := by decide +kernel
theorem dX6_joined_0 : decode cX6_joined 0 = .ok (.iload_n 0, 1) := dgX6_joined_0.1
theorem dX6_joined_1 : decode cX6_joined 1 = .ok (.tableswitch 198 38 62 #[181, 198, 198, 198, 123, 115, 198, 119, 198, 127, 198, 198, 198, 198, 198, 198, 198, 198, 198, 198, 198, 198, 139, 153, 167], 115) := dgX6_joined_0.2.1
theorem dX6_joined_116 : decode cX6_joined 116 = .ok (.iload_n 1, 1) := dgX6_joined_0.2.2.1
theorem dX6_joined_117 : decode cX6_joined 117 = .ok (.iload_n 2, 1) := dgX6_joined_0.2.2.2.1
theorem dX6_joined_118 : decode cX6_joined 118 = .ok (.iadd, 1) := dgX6_joined_0.2.2.2.2.1
theorem dX6_joined_119 : decode cX6_joined 119 = .ok (.ireturn, 1) := dgX6_joined_0.2.2.2.2.2.1
theorem dX6_joined_120 : decode cX6_joined 120 = .ok (.iload_n 1, 1) := dgX6_joined_0.2.2.2.2.2.2.1
theorem dX6_joined_121 : decode cX6_joined 121 = .ok (.iload_n 2, 1) := dgX6_joined_0.2.2.2.2.2.2.2.1
theorem dX6_joined_122 : decode cX6_joined 122 = .ok (.isub, 1) := dgX6_joined_0.2.2.2.2.2.2.2.2.1
theorem dX6_joined_123 : decode cX6_joined 123 = .ok (.ireturn, 1) := dgX6_joined_0.2.2.2.2.2.2.2.2.2.1
theorem dX6_joined_124 : decode cX6_joined 124 = .ok (.iload_n 1, 1) := dgX6_joined_0.2.2.2.2.2.2.2.2.2.2.1
theorem dX6_joined_125 : decode cX6_joined 125 = .ok (.iload_n 2, 1) := dgX6_joined_0.2.2.2.2.2.2.2.2.2.2.2.1
theorem dX6_joined_126 : decode cX6_joined 126 = .ok (.imul, 1) := dgX6_joined_0.2.2.2.2.2.2.2.2.2.2.2.2.1
theorem dX6_joined_127 : decode cX6_joined 127 = .ok (.ireturn, 1) := dgX6_joined_0.2.2.2.2.2.2.2.2.2.2.2.2.2.1
theorem dX6_joined_128 : decode cX6_joined 128 = .ok (.iload_n 2, 1) := dgX6_joined_0.2.2.2.2.2.2.2.2.2.2.2.2.2.2.1
theorem dX6_joined_129 : decode cX6_joined 129 = .ok (.ifCond .ne 7, 3) := dgX6_joined_0.2.2.2.2.2.2.2.2.2.2.2.2.2.2.2
theorem dgX6_joined_1 : decode cX6_joined 132 = .ok (.iconst 0, 1) ∧ decode cX6_joined 133 = .ok (.goto 6, 3) ∧ decode cX6_joined 136 = .ok (.iload_n 1, 1) ∧ decode cX6_joined 137 = .ok (.iload_n 2, 1) ∧ decode cX6_joined 138 = .ok (.idiv, 1) ∧ decode cX6_joined 139 = .ok (.ireturn, 1) ∧ decode cX6_joined 140 = .ok (.iload_n 1, 1) ∧ decode cX6_joined 141 = .ok (.iload_n 2, 1) ∧ decode cX6_joined 142 = .ok (.if_icmp .ge 7, 3) ∧ decode cX6_joined 145 = .ok (.iconst 1, 1) ∧ decode cX6_joined 146 = .ok (.goto 4, 3) ∧ decode cX6_joined 149 = .ok (.iconst 0, 1) ∧ decode cX6_joined 150 = .ok (.invokestatic 30, 3) ∧ decode cX6_joined 153 = .ok (.ireturn, 1) ∧ decode cX6_joined 154 = .ok (.iload_n 1, 1) ∧ decode cX6_joined 155 = .ok (.iload_n 2, 1) := by decide +kernel
theorem dX6_joined_132 : decode cX6_joined 132 = .ok (.iconst 0, 1) := dgX6_joined_1.1
theorem dX6_joined_133 : decode cX6_joined 133 = .ok (.goto 6, 3) := dgX6_joined_1.2.1
theorem dX6_joined_136 : decode cX6_joined 136 = .ok (.iload_n 1, 1) := dgX6_joined_1.2.2.1
theorem dX6_joined_137 : decode cX6_joined 137 = .ok (.iload_n 2, 1) := dgX6_joined_1.2.2.2.1
theorem dX6_joined_138 : decode cX6_joined 138 = .ok (.idiv, 1) := dgX6_joined_1.2.2.2.2.1
theorem dX6_joined_139 : decode cX6_joined 139 = .ok (.ireturn, 1) := dgX6_joined_1.2.2.2.2.2.1
theorem dX6_joined_140 : decode cX6_joined 140 = .ok (.iload_n 1, 1) := dgX6_joined_1.2.2.2.2.2.2.1
theorem dX6_joined_141 : decode cX6_joined 141 = .ok (.iload_n 2, 1) := dgX6_joined_1.2.2.2.2.2.2.2.1
theorem dX6_joined_142 : decode cX6_joined 142 = .ok (.if_icmp .ge 7, 3) := dgX6_joined_1.2.2.2.2.2.2.2.2.1
theorem dX6_joined_145 : decode cX6_joined 145 = .ok (.iconst 1, 1) := dgX6_joined_1.2.2.2.2.2.2.2.2.2.1
theorem dX6_joined_146 : decode cX6_joined 146 = .ok (.goto 4, 3) := dgX6_joined_1.2.2.2.2.2.2.2.2.2.2.1
theorem dX6_joined_149 : decode cX6_joined 149 = .ok (.iconst 0, 1) := dgX6_joined_1.2.2.2.2.2.2.2.2.2.2.2.1
theorem dX6_joined_150 : decode cX6_joined 150 = .ok (.invokestatic 30, 3) := dgX6_joined_1.2.2.2.2.2.2.2.2.2.2.2.2.1
theorem dX6_joined_153 : decode cX6_joined 153 = .ok (.ireturn, 1) := dgX6_joined_1.2.2.2.2.2.2.2.2.2.2.2.2.2.1
theorem dX6_joined_154 : decode cX6_joined 154 = .ok (.iload_n 1, 1) := dgX6_joined_1.2.2.2.2.2.2.2.2.2.2.2.2.2.2.1
theorem dX6_joined_155 : decode cX6_joined 155 = .ok (.iload_n 2, 1) := dgX6_joined_1.2.2.2.2.2.2.2.2.2.2.2.2.2.2.2
theorem dgX6_joined_2 : decode cX6_joined 156 = .ok (.if_icmp .ne 7, 3) ∧ decode cX6_joined 159 = .ok (.iconst 1, 1) ∧ decode cX6_joined 160 = .ok (.goto 4, 3) ∧ decode cX6_joined 163 = .ok (.iconst 0, 1) ∧ decode cX6_joined 164 = .ok (.invokestatic 30, 3) ∧ decode cX6_joined 167 = .ok (.ireturn, 1) ∧ decode cX6_joined 168 = .ok (.iload_n 1, 1) ∧ decode cX6_joined 169 = .ok (.iload_n 2, 1) ∧ decode cX6_joined 170 = .ok (.if_icmp .le 7, 3) ∧ decode cX6_joined 173 = .ok (.iconst 1, 1) ∧ decode cX6_joined 174 = .ok (.goto 4, 3) ∧ decode cX6_joined 177 = .ok (.iconst 0, 1) ∧ decode cX6_joined 178 = .ok (.invokestatic 30, 3) ∧ decode cX6_joined 181 = .ok (.ireturn, 1) ∧ decode cX6_joined 182 = .ok (.iload_n 1, 1) ∧ decode cX6_joined 183 = .ok (.ifCond .eq 11, 3) := by decide +kernel
theorem dX6_joined_156 : decode cX6_joined 156 = .ok (.if_icmp .ne 7, 3) := dgX6_joined_2.1
theorem dX6_joined_159 : decode cX6_joined 159 = .ok (.iconst 1, 1) := dgX6_joined_2.2.1
theorem dX6_joined_160 : decode cX6_joined 160 = .ok (.goto 4, 3) := dgX6_joined_2.2.2.1
theorem dX6_joined_163 : decode cX6_joined 163 = .ok (.iconst 0, 1) := dgX6_joined_2.2.2.2.1
theorem dX6_joined_164 : decode cX6_joined 164 = .ok (.invokestatic 30, 3) := dgX6_joined_2.2.2.2.2.1
theorem dX6_joined_167 : decode cX6_joined 167 = .ok (.ireturn, 1) := dgX6_joined_2.2.2.2.2.2.1
theorem dX6_joined_168 : decode cX6_joined 168 = .ok (.iload_n 1, 1) := dgX6_joined_2.2.2.2.2.2.2.1
theorem dX6_joined_169 : decode cX6_joined 169 = .ok (.iload_n 2, 1) := dgX6_joined_2.2.2.2.2.2.2.2.1
theorem dX6_joined_170 : decode cX6_joined 170 = .ok (.if_icmp .le 7, 3) := dgX6_joined_2.2.2.2.2.2.2.2.2.1
theorem dX6_joined_173 : decode cX6_joined 173 = .ok (.iconst 1, 1) := dgX6_joined_2.2.2.2.2.2.2.2.2.2.1
theorem dX6_joined_174 : decode cX6_joined 174 = .ok (.goto 4, 3) := dgX6_joined_2.2.2.2.2.2.2.2.2.2.2.1
theorem dX6_joined_177 : decode cX6_joined 177 = .ok (.iconst 0, 1) := dgX6_joined_2.2.2.2.2.2.2.2.2.2.2.2.1
theorem dX6_joined_178 : decode cX6_joined 178 = .ok (.invokestatic 30, 3) := dgX6_joined_2.2.2.2.2.2.2.2.2.2.2.2.2.1
theorem dX6_joined_181 : decode cX6_joined 181 = .ok (.ireturn, 1) := dgX6_joined_2.2.2.2.2.2.2.2.2.2.2.2.2.2.1
theorem dX6_joined_182 : decode cX6_joined 182 = .ok (.iload_n 1, 1) := dgX6_joined_2.2.2.2.2.2.2.2.2.2.2.2.2.2.2.1
theorem dX6_joined_183 : decode cX6_joined 183 = .ok (.ifCond .eq 11, 3) := dgX6_joined_2.2.2.2.2.2.2.2.2.2.2.2.2.2.2.2
theorem dgX6_joined_3 : decode cX6_joined 186 = .ok (.iload_n 2, 1) ∧ decode cX6_joined 187 = .ok (.ifCond .eq 7, 3) ∧ decode cX6_joined 190 = .ok (.iconst 1, 1) ∧ decode cX6_joined 191 = .ok (.goto 4, 3) ∧ decode cX6_joined 194 = .ok (.iconst 0, 1) ∧ decode cX6_joined 195 = .ok (.invokestatic 30, 3) ∧ decode cX6_joined 198 = .ok (.ireturn, 1) ∧ decode cX6_joined 199 = .ok (.iload_n 1, 1) ∧ decode cX6_joined 200 = .ok (.ifCond .ne 7, 3) ∧ decode cX6_joined 203 = .ok (.iload_n 2, 1) ∧ decode cX6_joined 204 = .ok (.ifCond .eq 7, 3) ∧ decode cX6_joined 207 = .ok (.iconst 1, 1) ∧ decode cX6_joined 208 = .ok (.goto 4, 3) ∧ decode cX6_joined 211 = .ok (.iconst 0, 1) ∧ decode cX6_joined 212 = .ok (.invokestatic 30, 3) ∧ decode cX6_joined 215 = .ok (.ireturn, 1) := by decide +kernel
theorem dX6_joined_186 : decode cX6_joined 186 = .ok (.iload_n 2, 1) := dgX6_joined_3.1
theorem dX6_joined_187 : decode cX6_joined 187 = .ok (.ifCond .eq 7, 3) := dgX6_joined_3.2.1
theorem dX6_joined_190 : decode cX6_joined 190 = .ok (.iconst 1, 1) := dgX6_joined_3.2.2.1
theorem dX6_joined_191 : decode cX6_joined 191 = .ok (.goto 4, 3) := dgX6_joined_3.2.2.2.1
theorem dX6_joined_194 : decode cX6_joined 194 = .ok (.iconst 0, 1) := dgX6_joined_3.2.2.2.2.1
theorem dX6_joined_195 : decode cX6_joined 195 = .ok (.invokestatic 30, 3) := dgX6_joined_3.2.2.2.2.2.1
theorem dX6_joined_198 : decode cX6_joined 198 = .ok (.ireturn, 1) := dgX6_joined_3.2.2.2.2.2.2.1
theorem dX6_joined_199 : decode cX6_joined 199 = .ok (.iload_n 1, 1) := dgX6_joined_3.2.2.2.2.2.2.2.1
theorem dX6_joined_200 : decode cX6_joined 200 = .ok (.ifCond .ne 7, 3) := dgX6_joined_3.2.2.2.2.2.2.2.2.1
theorem dX6_joined_203 : decode cX6_joined 203 = .ok (.iload_n 2, 1) := dgX6_joined_3.2.2.2.2.2.2.2.2.2.1
theorem dX6_joined_204 : decode cX6_joined 204 = .ok (.ifCond .eq 7, 3) := dgX6_joined_3.2.2.2.2.2.2.2.2.2.2.1
theorem dX6_joined_207 : decode cX6_joined 207 = .ok (.iconst 1, 1) := dgX6_joined_3.2.2.2.2.2.2.2.2.2.2.2.1
theorem dX6_joined_208 : decode cX6_joined 208 = .ok (.goto 4, 3) := dgX6_joined_3.2.2.2.2.2.2.2.2.2.2.2.2.1
theorem dX6_joined_211 : decode cX6_joined 211 = .ok (.iconst 0, 1) := dgX6_joined_3.2.2.2.2.2.2.2.2.2.2.2.2.2.1
theorem dX6_joined_212 : decode cX6_joined 212 = .ok (.invokestatic 30, 3) := dgX6_joined_3.2.2.2.2.2.2.2.2.2.2.2.2.2.2.1
theorem dX6_joined_215 : decode cX6_joined 215 = .ok (.ireturn, 1) := dgX6_joined_3.2.2.2.2.2.2.2.2.2.2.2.2.2.2.2
abbrev pX6_joined : List Nat := [0, 116, 120, 124, 128, 136, 139, 140, 149, 150, 154, 163, 164, 168, 177, 178, 182, 194, 195, 199, 207, 211, 212]
def bX6_joined_0 (cal : ab_F) : ab_K := o_iload 0 <| o_sw (ab_tsw 38 [16, 19, 19, 19, 3, 1, 19, 2, 19, 4, 19, 19, 19, 19, 19, 19, 19, 19, 19, 19, 19, 19, 7, 10, 13] 19)
def bX6_joined_1 (cal : ab_F) : ab_K := o_iload 1 <| o_iload 2 <| o_bin (fun x y => x + y) <| o_ret (some .int)
def bX6_joined_2 (cal : ab_F) : ab_K := o_iload 1 <| o_iload 2 <| o_bin (fun x y => x - y) <| o_ret (some .int)
def bX6_joined_3 (cal : ab_F) : ab_K := o_iload 1 <| o_iload 2 <| o_bin (fun x y => x * y) <| o_ret (some .int)
def bX6_joined_4 (cal : ab_F) : ab_K := o_iload 2 <| o_if (fun x => decide (¬ x = 0)) 5 <| o_push (.int 0) <| o_goto 6
def bX6_joined_5 (cal : ab_F) : ab_K := o_iload 1 <| o_iload 2 <| o_div (fun x y => x / y) <| o_goto 6
def bX6_joined_6 (cal : ab_F) : ab_K := o_ret (some .int)
def bX6_joined_7 (cal : ab_F) : ab_K := o_iload 1 <| o_iload 2 <| o_cmp (fun x y => decide (y ≤ x)) 8 <| o_push (.int 1) <| o_goto 9
def bX6_joined_8 (cal : ab_F) : ab_K := o_push (.int 0) <| o_goto 9
def bX6_joined_9 (cal : ab_F) : ab_K := o_callS cal 66 1 <| o_ret (some .int)
def bX6_joined_10 (cal : ab_F) : ab_K := o_iload 1 <| o_iload 2 <| o_cmp (fun x y => decide (¬ x = y)) 11 <| o_push (.int 1) <| o_goto 12
def bX6_joined_11 (cal : ab_F) : ab_K := o_push (.int 0) <| o_goto 12
def bX6_joined_12 (cal : ab_F) : ab_K := o_callS cal 66 1 <| o_ret (some .int)
def bX6_joined_13 (cal : ab_F) : ab_K := o_iload 1 <| o_iload 2 <| o_cmp (fun x y => decide (x ≤ y)) 14 <| o_push (.int 1) <| o_goto 15
def bX6_joined_14 (cal : ab_F) : ab_K := o_push (.int 0) <| o_goto 15
def bX6_joined_15 (cal : ab_F) : ab_K := o_callS cal 66 1 <| o_ret (some .int)
def bX6_joined_16 (cal : ab_F) : ab_K := o_iload 1 <| o_if (fun x => decide (x = 0)) 17 <| o_iload 2 <| o_if (fun x => decide (x = 0)) 17 <| o_push (.int 1) <| o_goto 18
def bX6_joined_17 (cal : ab_F) : ab_K := o_push (.int 0) <| o_goto 18
def bX6_joined_18 (cal : ab_F) : ab_K := o_callS cal 66 1 <| o_ret (some .int)
def bX6_joined_19 (cal : ab_F) : ab_K := o_iload 1 <| o_if (fun x => decide (¬ x = 0)) 20 <| o_iload 2 <| o_if (fun x => decide (x = 0)) 21 <| o_goto 20
def bX6_joined_20 (cal : ab_F) : ab_K := o_push (.int 1) <| o_goto 22
def bX6_joined_21 (cal : ab_F) : ab_K := o_push (.int 0) <| o_goto 22
def bX6_joined_22 (cal : ab_F) : ab_K := o_callS cal 66 1 <| o_ret (some .int)
def bX6_joined (cal : ab_F) : List ab_K := [bX6_joined_0 cal, bX6_joined_1 cal, bX6_joined_2 cal, bX6_joined_3 cal, bX6_joined_4 cal, bX6_joined_5 cal, bX6_joined_6 cal, bX6_joined_7 cal, bX6_joined_8 cal, bX6_joined_9 cal, bX6_joined_10 cal, bX6_joined_11 cal, bX6_joined_12 cal, bX6_joined_13 cal, bX6_joined_14 cal, bX6_joined_15 cal, bX6_joined_16 cal, bX6_joined_17 cal, bX6_joined_18 cal, bX6_joined_19 cal, bX6_joined_20 cal, bX6_joined_21 cal, bX6_joined_22 cal]
set_option maxRecDepth 100000 in
theorem sX6_joined_0 {G : ab_G} {xs : List Int32} {d : Nat} {cal : ab_F} (hcs : ab_CS G (ab_Z G xs) ab_Mf cal d) : ab_Sd G (ab_Z G xs) (d + 1) (ab_mY mX6_joined pX6_joined) 0 (bX6_joined_0 cal) :=
  sn_iload_n dX6_joined_0 rfl <| sn_tsw dX6_joined_1 rfl rfl rfl
set_option maxRecDepth 100000 in
theorem sX6_joined_1 {G : ab_G} {xs : List Int32} {d : Nat} {cal : ab_F} (hcs : ab_CS G (ab_Z G xs) ab_Mf cal d) : ab_Sd G (ab_Z G xs) (d + 1) (ab_mY mX6_joined pX6_joined) 116 (bX6_joined_1 cal) :=
  sn_iload_n dX6_joined_116 rfl <| sn_iload_n dX6_joined_117 rfl <| sn_iadd dX6_joined_118 <| sn_ret dX6_joined_119 ab_ri_int
set_option maxRecDepth 100000 in
theorem sX6_joined_2 {G : ab_G} {xs : List Int32} {d : Nat} {cal : ab_F} (hcs : ab_CS G (ab_Z G xs) ab_Mf cal d) : ab_Sd G (ab_Z G xs) (d + 1) (ab_mY mX6_joined pX6_joined) 120 (bX6_joined_2 cal) :=
  sn_iload_n dX6_joined_120 rfl <| sn_iload_n dX6_joined_121 rfl <| sn_isub dX6_joined_122 <| sn_ret dX6_joined_123 ab_ri_int
set_option maxRecDepth 100000 in
theorem sX6_joined_3 {G : ab_G} {xs : List Int32} {d : Nat} {cal : ab_F} (hcs : ab_CS G (ab_Z G xs) ab_Mf cal d) : ab_Sd G (ab_Z G xs) (d + 1) (ab_mY mX6_joined pX6_joined) 124 (bX6_joined_3 cal) :=
  sn_iload_n dX6_joined_124 rfl <| sn_iload_n dX6_joined_125 rfl <| sn_imul dX6_joined_126 <| sn_ret dX6_joined_127 ab_ri_int
set_option maxRecDepth 100000 in
theorem sX6_joined_4 {G : ab_G} {xs : List Int32} {d : Nat} {cal : ab_F} (hcs : ab_CS G (ab_Z G xs) ab_Mf cal d) : ab_Sd G (ab_Z G xs) (d + 1) (ab_mY mX6_joined pX6_joined) 128 (bX6_joined_4 cal) :=
  sn_iload_n dX6_joined_128 rfl <| sn_if_ne (tg := 136) dX6_joined_129 rfl rfl <| sn_iconst dX6_joined_132 rfl <| sn_goto (tg := 139) dX6_joined_133 rfl rfl
set_option maxRecDepth 100000 in
theorem sX6_joined_5 {G : ab_G} {xs : List Int32} {d : Nat} {cal : ab_F} (hcs : ab_CS G (ab_Z G xs) ab_Mf cal d) : ab_Sd G (ab_Z G xs) (d + 1) (ab_mY mX6_joined pX6_joined) 136 (bX6_joined_5 cal) :=
  sn_iload_n dX6_joined_136 rfl <| sn_iload_n dX6_joined_137 rfl <| sn_idiv dX6_joined_138 <| sn_next rfl
set_option maxRecDepth 100000 in
theorem sX6_joined_6 {G : ab_G} {xs : List Int32} {d : Nat} {cal : ab_F} (hcs : ab_CS G (ab_Z G xs) ab_Mf cal d) : ab_Sd G (ab_Z G xs) (d + 1) (ab_mY mX6_joined pX6_joined) 139 (bX6_joined_6 cal) :=
  sn_ret dX6_joined_139 ab_ri_int
set_option maxRecDepth 100000 in
theorem sX6_joined_7 {G : ab_G} {xs : List Int32} {d : Nat} {cal : ab_F} (hcs : ab_CS G (ab_Z G xs) ab_Mf cal d) : ab_Sd G (ab_Z G xs) (d + 1) (ab_mY mX6_joined pX6_joined) 140 (bX6_joined_7 cal) :=
  sn_iload_n dX6_joined_140 rfl <| sn_iload_n dX6_joined_141 rfl <| sn_cmp_ge (tg := 149) dX6_joined_142 rfl rfl <| sn_iconst dX6_joined_145 rfl <| sn_goto (tg := 150) dX6_joined_146 rfl rfl
set_option maxRecDepth 100000 in
theorem sX6_joined_8 {G : ab_G} {xs : List Int32} {d : Nat} {cal : ab_F} (hcs : ab_CS G (ab_Z G xs) ab_Mf cal d) : ab_Sd G (ab_Z G xs) (d + 1) (ab_mY mX6_joined pX6_joined) 149 (bX6_joined_8 cal) :=
  sn_iconst dX6_joined_149 rfl <| sn_next rfl
set_option maxRecDepth 100000 in
theorem sX6_joined_9 {G : ab_G} {xs : List Int32} {d : Nat} {cal : ab_F} (hcs : ab_CS G (ab_Z G xs) ab_Mf cal d) : ab_Sd G (ab_Z G xs) (d + 1) (ab_mY mX6_joined pX6_joined) 150 (bX6_joined_9 cal) :=
  sq_callS mt_66 hcs dX6_joined_150 w_362 w_363 w_65 w_364 hy_66 hm_66 <| sn_ret dX6_joined_153 ab_ri_int
set_option maxRecDepth 100000 in
theorem sX6_joined_10 {G : ab_G} {xs : List Int32} {d : Nat} {cal : ab_F} (hcs : ab_CS G (ab_Z G xs) ab_Mf cal d) : ab_Sd G (ab_Z G xs) (d + 1) (ab_mY mX6_joined pX6_joined) 154 (bX6_joined_10 cal) :=
  sn_iload_n dX6_joined_154 rfl <| sn_iload_n dX6_joined_155 rfl <| sn_cmp_ne (tg := 163) dX6_joined_156 rfl rfl <| sn_iconst dX6_joined_159 rfl <| sn_goto (tg := 164) dX6_joined_160 rfl rfl
set_option maxRecDepth 100000 in
theorem sX6_joined_11 {G : ab_G} {xs : List Int32} {d : Nat} {cal : ab_F} (hcs : ab_CS G (ab_Z G xs) ab_Mf cal d) : ab_Sd G (ab_Z G xs) (d + 1) (ab_mY mX6_joined pX6_joined) 163 (bX6_joined_11 cal) :=
  sn_iconst dX6_joined_163 rfl <| sn_next rfl
set_option maxRecDepth 100000 in
theorem sX6_joined_12 {G : ab_G} {xs : List Int32} {d : Nat} {cal : ab_F} (hcs : ab_CS G (ab_Z G xs) ab_Mf cal d) : ab_Sd G (ab_Z G xs) (d + 1) (ab_mY mX6_joined pX6_joined) 164 (bX6_joined_12 cal) :=
  sq_callS mt_66 hcs dX6_joined_164 w_362 w_363 w_65 w_364 hy_66 hm_66 <| sn_ret dX6_joined_167 ab_ri_int
set_option maxRecDepth 100000 in
theorem sX6_joined_13 {G : ab_G} {xs : List Int32} {d : Nat} {cal : ab_F} (hcs : ab_CS G (ab_Z G xs) ab_Mf cal d) : ab_Sd G (ab_Z G xs) (d + 1) (ab_mY mX6_joined pX6_joined) 168 (bX6_joined_13 cal) :=
  sn_iload_n dX6_joined_168 rfl <| sn_iload_n dX6_joined_169 rfl <| sn_cmp_le (tg := 177) dX6_joined_170 rfl rfl <| sn_iconst dX6_joined_173 rfl <| sn_goto (tg := 178) dX6_joined_174 rfl rfl
set_option maxRecDepth 100000 in
theorem sX6_joined_14 {G : ab_G} {xs : List Int32} {d : Nat} {cal : ab_F} (hcs : ab_CS G (ab_Z G xs) ab_Mf cal d) : ab_Sd G (ab_Z G xs) (d + 1) (ab_mY mX6_joined pX6_joined) 177 (bX6_joined_14 cal) :=
  sn_iconst dX6_joined_177 rfl <| sn_next rfl
set_option maxRecDepth 100000 in
theorem sX6_joined_15 {G : ab_G} {xs : List Int32} {d : Nat} {cal : ab_F} (hcs : ab_CS G (ab_Z G xs) ab_Mf cal d) : ab_Sd G (ab_Z G xs) (d + 1) (ab_mY mX6_joined pX6_joined) 178 (bX6_joined_15 cal) :=
  sq_callS mt_66 hcs dX6_joined_178 w_362 w_363 w_65 w_364 hy_66 hm_66 <| sn_ret dX6_joined_181 ab_ri_int
set_option maxRecDepth 100000 in
theorem sX6_joined_16 {G : ab_G} {xs : List Int32} {d : Nat} {cal : ab_F} (hcs : ab_CS G (ab_Z G xs) ab_Mf cal d) : ab_Sd G (ab_Z G xs) (d + 1) (ab_mY mX6_joined pX6_joined) 182 (bX6_joined_16 cal) :=
  sn_iload_n dX6_joined_182 rfl <| sn_if_eq (tg := 194) dX6_joined_183 rfl rfl <| sn_iload_n dX6_joined_186 rfl <| sn_if_eq (tg := 194) dX6_joined_187 rfl rfl <| sn_iconst dX6_joined_190 rfl <| sn_goto (tg := 195) dX6_joined_191 rfl rfl
set_option maxRecDepth 100000 in
theorem sX6_joined_17 {G : ab_G} {xs : List Int32} {d : Nat} {cal : ab_F} (hcs : ab_CS G (ab_Z G xs) ab_Mf cal d) : ab_Sd G (ab_Z G xs) (d + 1) (ab_mY mX6_joined pX6_joined) 194 (bX6_joined_17 cal) :=
  sn_iconst dX6_joined_194 rfl <| sn_next rfl
set_option maxRecDepth 100000 in
theorem sX6_joined_18 {G : ab_G} {xs : List Int32} {d : Nat} {cal : ab_F} (hcs : ab_CS G (ab_Z G xs) ab_Mf cal d) : ab_Sd G (ab_Z G xs) (d + 1) (ab_mY mX6_joined pX6_joined) 195 (bX6_joined_18 cal) :=
  sq_callS mt_66 hcs dX6_joined_195 w_362 w_363 w_65 w_364 hy_66 hm_66 <| sn_ret dX6_joined_198 ab_ri_int
set_option maxRecDepth 100000 in
theorem sX6_joined_19 {G : ab_G} {xs : List Int32} {d : Nat} {cal : ab_F} (hcs : ab_CS G (ab_Z G xs) ab_Mf cal d) : ab_Sd G (ab_Z G xs) (d + 1) (ab_mY mX6_joined pX6_joined) 199 (bX6_joined_19 cal) :=
  sn_iload_n dX6_joined_199 rfl <| sn_if_ne (tg := 207) dX6_joined_200 rfl rfl <| sn_iload_n dX6_joined_203 rfl <| sn_if_eq (tg := 211) dX6_joined_204 rfl rfl <| sn_next rfl
set_option maxRecDepth 100000 in
theorem sX6_joined_20 {G : ab_G} {xs : List Int32} {d : Nat} {cal : ab_F} (hcs : ab_CS G (ab_Z G xs) ab_Mf cal d) : ab_Sd G (ab_Z G xs) (d + 1) (ab_mY mX6_joined pX6_joined) 207 (bX6_joined_20 cal) :=
  sn_iconst dX6_joined_207 rfl <| sn_goto (tg := 212) dX6_joined_208 rfl rfl
set_option maxRecDepth 100000 in
theorem sX6_joined_21 {G : ab_G} {xs : List Int32} {d : Nat} {cal : ab_F} (hcs : ab_CS G (ab_Z G xs) ab_Mf cal d) : ab_Sd G (ab_Z G xs) (d + 1) (ab_mY mX6_joined pX6_joined) 211 (bX6_joined_21 cal) :=
  sn_iconst dX6_joined_211 rfl <| sn_next rfl
set_option maxRecDepth 100000 in
theorem sX6_joined_22 {G : ab_G} {xs : List Int32} {d : Nat} {cal : ab_F} (hcs : ab_CS G (ab_Z G xs) ab_Mf cal d) : ab_Sd G (ab_Z G xs) (d + 1) (ab_mY mX6_joined pX6_joined) 212 (bX6_joined_22 cal) :=
  sq_callS mt_66 hcs dX6_joined_212 w_362 w_363 w_65 w_364 hy_66 hm_66 <| sn_ret dX6_joined_215 ab_ri_int
theorem sX6_joined {G : ab_G} {xs : List Int32} {d : Nat} {cal : ab_F} (hcs : ab_CS G (ab_Z G xs) ab_Mf cal d) : ab_BS G (ab_Z G xs) (d + 1) (ab_mY mX6_joined pX6_joined) pX6_joined (bX6_joined cal) := ⟨sX6_joined_0 hcs, sX6_joined_1 hcs, sX6_joined_2 hcs, sX6_joined_3 hcs, sX6_joined_4 hcs, sX6_joined_5 hcs, sX6_joined_6 hcs, sX6_joined_7 hcs, sX6_joined_8 hcs, sX6_joined_9 hcs, sX6_joined_10 hcs, sX6_joined_11 hcs, sX6_joined_12 hcs, sX6_joined_13 hcs, sX6_joined_14 hcs, sX6_joined_15 hcs, sX6_joined_16 hcs, sX6_joined_17 hcs, sX6_joined_18 hcs, sX6_joined_19 hcs, sX6_joined_20 hcs, sX6_joined_21 hcs, sX6_joined_22 hcs, trivial⟩
theorem dgX6_truth_0 : decode cX6_truth 0 = .ok (.iload_n 0, 1) ∧ decode cX6_truth 1 = .ok (.ifCond .eq 7, 3) ∧ decode cX6_truth 4 = .ok (.iconst 1, 1) ∧ decode cX6_truth 5 = .ok (.goto 4, 3) ∧ decode cX6_truth 8 = .ok (.iconst 0, 1) ∧ decode cX6_truth 9 = .ok (.ireturn, 1) := by decide +kernel
theorem dX6_truth_0 : decode cX6_truth 0 = .ok (.iload_n 0, 1) := dgX6_truth_0.1
theorem dX6_truth_1 : decode cX6_truth 1 = .ok (.ifCond .eq 7, 3) := dgX6_truth_0.2.1
theorem dX6_truth_4 : decode cX6_truth 4 = .ok (.iconst 1, 1) := dgX6_truth_0.2.2.1
theorem dX6_truth_5 : decode cX6_truth 5 = .ok (.goto 4, 3) := dgX6_truth_0.2.2.2.1
theorem dX6_truth_8 : decode cX6_truth 8 = .ok (.iconst 0, 1) := dgX6_truth_0.2.2.2.2.1
theorem dX6_truth_9 : decode cX6_truth 9 = .ok (.ireturn, 1) := dgX6_truth_0.2.2.2.2.2
abbrev pX6_truth : List Nat := [0, 8, 9]
def bX6_truth_0 (cal : ab_F) : ab_K := o_iload 0 <| o_if (fun x => decide (x = 0)) 1 <| o_push (.int 1) <| o_goto 2
def bX6_truth_1 (cal : ab_F) : ab_K := o_push (.int 0) <| o_goto 2
def bX6_truth_2 (cal : ab_F) : ab_K := o_ret (some .int)
def bX6_truth (cal : ab_F) : List ab_K := [bX6_truth_0 cal, bX6_truth_1 cal, bX6_truth_2 cal]
set_option maxRecDepth 100000 in
theorem sX6_truth_0 {G : ab_G} {xs : List Int32} {d : Nat} {cal : ab_F} (hcs : ab_CS G (ab_Z G xs) ab_Mf cal d) : ab_Sd G (ab_Z G xs) (d + 1) (ab_mY mX6_truth pX6_truth) 0 (bX6_truth_0 cal) :=
  sn_iload_n dX6_truth_0 rfl <| sn_if_eq (tg := 8) dX6_truth_1 rfl rfl <| sn_iconst dX6_truth_4 rfl <| sn_goto (tg := 9) dX6_truth_5 rfl rfl
set_option maxRecDepth 100000 in
theorem sX6_truth_1 {G : ab_G} {xs : List Int32} {d : Nat} {cal : ab_F} (hcs : ab_CS G (ab_Z G xs) ab_Mf cal d) : ab_Sd G (ab_Z G xs) (d + 1) (ab_mY mX6_truth pX6_truth) 8 (bX6_truth_1 cal) :=
  sn_iconst dX6_truth_8 rfl <| sn_next rfl
set_option maxRecDepth 100000 in
theorem sX6_truth_2 {G : ab_G} {xs : List Int32} {d : Nat} {cal : ab_F} (hcs : ab_CS G (ab_Z G xs) ab_Mf cal d) : ab_Sd G (ab_Z G xs) (d + 1) (ab_mY mX6_truth pX6_truth) 9 (bX6_truth_2 cal) :=
  sn_ret dX6_truth_9 ab_ri_int
theorem sX6_truth {G : ab_G} {xs : List Int32} {d : Nat} {cal : ab_F} (hcs : ab_CS G (ab_Z G xs) ab_Mf cal d) : ab_BS G (ab_Z G xs) (d + 1) (ab_mY mX6_truth pX6_truth) pX6_truth (bX6_truth cal) := ⟨sX6_truth_0 hcs, sX6_truth_1 hcs, sX6_truth_2 hcs, trivial⟩
