theorem dgX1_init_0 : decode cX1_init 0 = .ok (.aload_n 0, 1) ∧ decode cX1_init 1 = .ok (.invokespecial 3, 3) ∧ decode cX1_init 4 = .ok (.aload_n 0, 1) ∧ decode cX1_init 5 = .ok (.bipush 96, 2) ∧ decode cX1_init 7 = .ok (.newarray .int, 2) ∧ decode cX1_init 9 = .ok (.putfield 9, 3) ∧ decode cX1_init 12 = .ok (.aload_n 0, 1) ∧ decode cX1_init 13 = .ok (.bipush 96, 2) ∧ decode cX1_init 15 = .ok (.newarray .int, 2) ∧ decode cX1_init 17 = .ok (.putfield 15, 3) ∧ decode cX1_init 20 = .ok (.aload_n 0, 1) ∧ decode cX1_init 21 = .ok (.ldc 18, 2) ∧ decode cX1_init 23 = .ok (.putfield 20, 3) ∧ decode cX1_init 26 = .ok (.aload_n 0, 1) ∧ decode cX1_init 27 = .ok (.aload_n 1, 1) ∧ decode cX1_init 28 = .ok (.putfield 24, 3) := by decide +kernel
theorem dX1_init_0 : decode cX1_init 0 = .ok (.aload_n 0, 1) := dgX1_init_0.1
theorem dX1_init_1 : decode cX1_init 1 = .ok (.invokespecial 3, 3) := dgX1_init_0.2.1
theorem dX1_init_4 : decode cX1_init 4 = .ok (.aload_n 0, 1) := dgX1_init_0.2.2.1
theorem dX1_init_5 : decode cX1_init 5 = .ok (.bipush 96, 2) := dgX1_init_0.2.2.2.1
theorem dX1_init_7 : decode cX1_init 7 = .ok (.newarray .int, 2) := dgX1_init_0.2.2.2.2.1
theorem dX1_init_9 : decode cX1_init 9 = .ok (.putfield 9, 3) := dgX1_init_0.2.2.2.2.2.1
theorem dX1_init_12 : decode cX1_init 12 = .ok (.aload_n 0, 1) := dgX1_init_0.2.2.2.2.2.2.1
theorem dX1_init_13 : decode cX1_init 13 = .ok (.bipush 96, 2) := dgX1_init_0.2.2.2.2.2.2.2.1
theorem dX1_init_15 : decode cX1_init 15 = .ok (.newarray .int, 2) := dgX1_init_0.2.2.2.2.2.2.2.2.1
theorem dX1_init_17 : decode cX1_init 17 = .ok (.putfield 15, 3) := dgX1_init_0.2.2.2.2.2.2.2.2.2.1
theorem dX1_init_20 : decode cX1_init 20 = .ok (.aload_n 0, 1) := dgX1_init_0.2.2.2.2.2.2.2.2.2.2.1
theorem dX1_init_21 : decode cX1_init 21 = .ok (.ldc 18, 2) := dgX1_init_0.2.2.2.2.2.2.2.2.2.2.2.1
theorem dX1_init_23 : decode cX1_init 23 = .ok (.putfield 20, 3) := dgX1_init_0.2.2.2.2.2.2.2.2.2.2.2.2.1
theorem dX1_init_26 : decode cX1_init 26 = .ok (.aload_n 0, 1) := dgX1_init_0.2.2.2.2.2.2.2.2.2.2.2.2.2.1
theorem dX1_init_27 : decode cX1_init 27 = .ok (.aload_n 1, 1) := dgX1_init_0.2.2.2.2.2.2.2.2.2.2.2.2.2.2.1
theorem dX1_init_28 : decode cX1_init 28 = .ok (.putfield 24, 3) := dgX1_init_0.2.2.2.2.2.2.2.2.2.2.2.2.2.2.2
theorem dX1_init_31 : decode cX1_init 31 = .ok (.return_, 1) := by decide +kernel
abbrev pX1_init : List Nat := [0]
def bX1_init_0 (cal : ab_F) : ab_K := o_aload 0 <| o_oinit <| o_aload 0 <| o_push (.int 96) <| o_newi 0 <| o_putA 0 2 <| o_aload 0 <| o_push (.int 96) <| o_newi 0 <| o_putA 0 3 <| o_aload 0 <| o_push (.ref (1000000 + 2)) <| o_putA 0 6 <| o_aload 0 <| o_aload 1 <| o_putA 0 1 <| o_ret none
def bX1_init (cal : ab_F) : List ab_K := [bX1_init_0 cal]
set_option maxRecDepth 100000 in
theorem sX1_init_0 {G : ab_G} {xs : List Int32} {d : Nat} {cal : ab_F} (hcs : ab_CS G (ab_Z G xs) ab_Mf cal d) : ab_Sd G (ab_Z G xs) (d + 1) (ab_mY mX1_init pX1_init) 0 (bX1_init_0 cal) :=
  sn_aload_n dX1_init_0 rfl <| sn_oinit (Nat.le_add_left 1 _) dX1_init_1 w_194 w_80 w_81 <| sn_aload_n dX1_init_4 rfl <| sn_bipush dX1_init_5 rfl <| sn_newi dX1_init_7 rfl w_154 rfl (fun _ _ h => h) rfl (by decide) <| sn_putA tyX1 tyX1_ok nmX1 dX1_init_9 rfl hinX1 (by decide) w_199 (Or.inr ⟨rfl, rfl, rfl⟩) (tyX1_ok 2 (by decide)) (fun _ => ⟨rfl, rfl⟩) ⟨rfl, rfl⟩ <| sn_aload_n dX1_init_12 rfl <| sn_bipush dX1_init_13 rfl <| sn_newi dX1_init_15 rfl w_154 rfl (fun _ _ h => h) rfl (by decide) <| sn_putA tyX1 tyX1_ok nmX1 dX1_init_17 rfl hinX1 (by decide) w_200 (Or.inr ⟨rfl, rfl, rfl⟩) (tyX1_ok 3 (by decide)) (fun _ => ⟨rfl, rfl⟩) ⟨rfl, rfl⟩ <| sn_aload_n dX1_init_20 rfl <| sn_ldcS dX1_init_21 (fun U h => h.2.2.1 0 _ rfl) <| sn_putA tyX1 tyX1_ok nmX1 dX1_init_23 rfl hinX1 (by decide) w_203 (Or.inl rfl) (tyX1_ok 6 (by decide)) (fun _ => ⟨rfl, rfl⟩) ⟨rfl, rfl⟩ <| sn_aload_n dX1_init_26 rfl <| sn_aload_n dX1_init_27 rfl <| sn_putA tyX1 tyX1_ok nmX1 dX1_init_28 rfl hinX1 (by decide) w_198 (Or.inr ⟨rfl, rfl, rfl⟩) (tyX1_ok 1 (by decide)) (fun _ => ⟨rfl, rfl⟩) ⟨rfl, rfl⟩ <| sn_ret dX1_init_31 ab_ri_void
theorem sX1_init {G : ab_G} {xs : List Int32} {d : Nat} {cal : ab_F} (hcs : ab_CS G (ab_Z G xs) ab_Mf cal d) : ab_BS G (ab_Z G xs) (d + 1) (ab_mY mX1_init pX1_init) pX1_init (bX1_init cal) := ⟨sX1_init_0 hcs, trivial⟩
theorem dgX1_readText_0 : decode cX1_readText 0 = .ok (.aload_n 0, 1) ∧ decode cX1_readText 1 = .ok (.invokevirtual 28, 3) ∧ decode cX1_readText 4 = .ok (.aload_n 0, 1) ∧ decode cX1_readText 5 = .ok (.invokevirtual 31, 3) ∧ decode cX1_readText 8 = .ok (.istore_n 1, 1) ∧ decode cX1_readText 9 = .ok (.iload_n 1, 1) ∧ decode cX1_readText 10 = .ok (.iconst (-1), 1) ∧ decode cX1_readText 11 = .ok (.if_icmp .ne 13, 3) ∧ decode cX1_readText 14 = .ok (.aload_n 0, 1) ∧ decode cX1_readText 15 = .ok (.aload_n 0, 1) ∧ decode cX1_readText 16 = .ok (.getfield 35, 3) ∧ decode cX1_readText 19 = .ok (.putfield 39, 3) ∧ decode cX1_readText 22 = .ok (.aconst_null, 1) ∧ decode cX1_readText 23 = .ok (.areturn, 1) ∧ decode cX1_readText 24 = .ok (.aload_n 0, 1) ∧ decode cX1_readText 25 = .ok (.iload_n 1, 1) := by decide +kernel
theorem dX1_readText_0 : decode cX1_readText 0 = .ok (.aload_n 0, 1) := dgX1_readText_0.1
theorem dX1_readText_1 : decode cX1_readText 1 = .ok (.invokevirtual 28, 3) := dgX1_readText_0.2.1
theorem dX1_readText_4 : decode cX1_readText 4 = .ok (.aload_n 0, 1) := dgX1_readText_0.2.2.1
theorem dX1_readText_5 : decode cX1_readText 5 = .ok (.invokevirtual 31, 3) := dgX1_readText_0.2.2.2.1
theorem dX1_readText_8 : decode cX1_readText 8 = .ok (.istore_n 1, 1) := dgX1_readText_0.2.2.2.2.1
theorem dX1_readText_9 : decode cX1_readText 9 = .ok (.iload_n 1, 1) := dgX1_readText_0.2.2.2.2.2.1
theorem dX1_readText_10 : decode cX1_readText 10 = .ok (.iconst (-1), 1) := dgX1_readText_0.2.2.2.2.2.2.1
theorem dX1_readText_11 : decode cX1_readText 11 = .ok (.if_icmp .ne 13, 3) := dgX1_readText_0.2.2.2.2.2.2.2.1
theorem dX1_readText_14 : decode cX1_readText 14 = .ok (.aload_n 0, 1) := dgX1_readText_0.2.2.2.2.2.2.2.2.1
theorem dX1_readText_15 : decode cX1_readText 15 = .ok (.aload_n 0, 1) := dgX1_readText_0.2.2.2.2.2.2.2.2.2.1
theorem dX1_readText_16 : decode cX1_readText 16 = .ok (.getfield 35, 3) := dgX1_readText_0.2.2.2.2.2.2.2.2.2.2.1
theorem dX1_readText_19 : decode cX1_readText 19 = .ok (.putfield 39, 3) := dgX1_readText_0.2.2.2.2.2.2.2.2.2.2.2.1
theorem dX1_readText_22 : decode cX1_readText 22 = .ok (.aconst_null, 1) := dgX1_readText_0.2.2.2.2.2.2.2.2.2.2.2.2.1
theorem dX1_readText_23 : decode cX1_readText 23 = .ok (.areturn, 1) := dgX1_readText_0.2.2.2.2.2.2.2.2.2.2.2.2.2.1
theorem dX1_readText_24 : decode cX1_readText 24 = .ok (.aload_n 0, 1) := dgX1_readText_0.2.2.2.2.2.2.2.2.2.2.2.2.2.2.1
theorem dX1_readText_25 : decode cX1_readText 25 = .ok (.iload_n 1, 1) := dgX1_readText_0.2.2.2.2.2.2.2.2.2.2.2.2.2.2.2
theorem dgX1_readText_1 : decode cX1_readText 26 = .ok (.ifCond .ne 8, 3) ∧ decode cX1_readText 29 = .ok (.ldc 42, 2) ∧ decode cX1_readText 31 = .ok (.goto 15, 3) ∧ decode cX1_readText 34 = .ok (.iload_n 1, 1) ∧ decode cX1_readText 35 = .ok (.iconst 1, 1) ∧ decode cX1_readText 36 = .ok (.if_icmp .ne 8, 3) ∧ decode cX1_readText 39 = .ok (.ldc 44, 2) ∧ decode cX1_readText 41 = .ok (.goto 5, 3) ∧ decode cX1_readText 44 = .ok (.ldc 46, 2) ∧ decode cX1_readText 46 = .ok (.putfield 20, 3) ∧ decode cX1_readText 49 = .ok (.aload_n 0, 1) ∧ decode cX1_readText 50 = .ok (.invokevirtual 48, 3) ∧ decode cX1_readText 53 = .ok (.aload_n 0, 1) ∧ decode cX1_readText 54 = .ok (.iconst 0, 1) ∧ decode cX1_readText 55 = .ok (.iconst 0, 1) ∧ decode cX1_readText 56 = .ok (.iconst 0, 1) := by decide +kernel
theorem dX1_readText_26 : decode cX1_readText 26 = .ok (.ifCond .ne 8, 3) := dgX1_readText_1.1
theorem dX1_readText_29 : decode cX1_readText 29 = .ok (.ldc 42, 2) := dgX1_readText_1.2.1
theorem dX1_readText_31 : decode cX1_readText 31 = .ok (.goto 15, 3) := dgX1_readText_1.2.2.1
theorem dX1_readText_34 : decode cX1_readText 34 = .ok (.iload_n 1, 1) := dgX1_readText_1.2.2.2.1
theorem dX1_readText_35 : decode cX1_readText 35 = .ok (.iconst 1, 1) := dgX1_readText_1.2.2.2.2.1
theorem dX1_readText_36 : decode cX1_readText 36 = .ok (.if_icmp .ne 8, 3) := dgX1_readText_1.2.2.2.2.2.1
theorem dX1_readText_39 : decode cX1_readText 39 = .ok (.ldc 44, 2) := dgX1_readText_1.2.2.2.2.2.2.1
theorem dX1_readText_41 : decode cX1_readText 41 = .ok (.goto 5, 3) := dgX1_readText_1.2.2.2.2.2.2.2.1
theorem dX1_readText_44 : decode cX1_readText 44 = .ok (.ldc 46, 2) := dgX1_readText_1.2.2.2.2.2.2.2.2.1
theorem dX1_readText_46 : decode cX1_readText 46 = .ok (.putfield 20, 3) := dgX1_readText_1.2.2.2.2.2.2.2.2.2.1
theorem dX1_readText_49 : decode cX1_readText 49 = .ok (.aload_n 0, 1) := dgX1_readText_1.2.2.2.2.2.2.2.2.2.2.1
theorem dX1_readText_50 : decode cX1_readText 50 = .ok (.invokevirtual 48, 3) := dgX1_readText_1.2.2.2.2.2.2.2.2.2.2.2.1
theorem dX1_readText_53 : decode cX1_readText 53 = .ok (.aload_n 0, 1) := dgX1_readText_1.2.2.2.2.2.2.2.2.2.2.2.2.1
theorem dX1_readText_54 : decode cX1_readText 54 = .ok (.iconst 0, 1) := dgX1_readText_1.2.2.2.2.2.2.2.2.2.2.2.2.2.1
theorem dX1_readText_55 : decode cX1_readText 55 = .ok (.iconst 0, 1) := dgX1_readText_1.2.2.2.2.2.2.2.2.2.2.2.2.2.2.1
theorem dX1_readText_56 : decode cX1_readText 56 = .ok (.iconst 0, 1) := dgX1_readText_1.2.2.2.2.2.2.2.2.2.2.2.2.2.2.2
theorem dgX1_readText_2 : decode cX1_readText 57 = .ok (.invokevirtual 51, 3) ∧ decode cX1_readText 60 = .ok (.aload_n 0, 1) ∧ decode cX1_readText 61 = .ok (.getfield 39, 3) ∧ decode cX1_readText 64 = .ok (.iconst (-1), 1) ∧ decode cX1_readText 65 = .ok (.if_icmp .ne 18, 3) ∧ decode cX1_readText 68 = .ok (.aload_n 0, 1) ∧ decode cX1_readText 69 = .ok (.getfield 55, 3) ∧ decode cX1_readText 72 = .ok (.ifCond .eq 11, 3) ∧ decode cX1_readText 75 = .ok (.aload_n 0, 1) ∧ decode cX1_readText 76 = .ok (.aload_n 0, 1) ∧ decode cX1_readText 77 = .ok (.getfield 35, 3) ∧ decode cX1_readText 80 = .ok (.putfield 39, 3) ∧ decode cX1_readText 83 = .ok (.aload_n 0, 1) ∧ decode cX1_readText 84 = .ok (.getfield 39, 3) ∧ decode cX1_readText 87 = .ok (.iconst (-1), 1) ∧ decode cX1_readText 88 = .ok (.if_icmp .eq 5, 3) := by decide +kernel
theorem dX1_readText_57 : decode cX1_readText 57 = .ok (.invokevirtual 51, 3) := dgX1_readText_2.1
theorem dX1_readText_60 : decode cX1_readText 60 = .ok (.aload_n 0, 1) := dgX1_readText_2.2.1
theorem dX1_readText_61 : decode cX1_readText 61 = .ok (.getfield 39, 3) := dgX1_readText_2.2.2.1
theorem dX1_readText_64 : decode cX1_readText 64 = .ok (.iconst (-1), 1) := dgX1_readText_2.2.2.2.1
theorem dX1_readText_65 : decode cX1_readText 65 = .ok (.if_icmp .ne 18, 3) := dgX1_readText_2.2.2.2.2.1
theorem dX1_readText_68 : decode cX1_readText 68 = .ok (.aload_n 0, 1) := dgX1_readText_2.2.2.2.2.2.1
theorem dX1_readText_69 : decode cX1_readText 69 = .ok (.getfield 55, 3) := dgX1_readText_2.2.2.2.2.2.2.1
theorem dX1_readText_72 : decode cX1_readText 72 = .ok (.ifCond .eq 11, 3) := dgX1_readText_2.2.2.2.2.2.2.2.1
theorem dX1_readText_75 : decode cX1_readText 75 = .ok (.aload_n 0, 1) := dgX1_readText_2.2.2.2.2.2.2.2.2.1
theorem dX1_readText_76 : decode cX1_readText 76 = .ok (.aload_n 0, 1) := dgX1_readText_2.2.2.2.2.2.2.2.2.2.1
theorem dX1_readText_77 : decode cX1_readText 77 = .ok (.getfield 35, 3) := dgX1_readText_2.2.2.2.2.2.2.2.2.2.2.1
theorem dX1_readText_80 : decode cX1_readText 80 = .ok (.putfield 39, 3) := dgX1_readText_2.2.2.2.2.2.2.2.2.2.2.2.1
theorem dX1_readText_83 : decode cX1_readText 83 = .ok (.aload_n 0, 1) := dgX1_readText_2.2.2.2.2.2.2.2.2.2.2.2.2.1
theorem dX1_readText_84 : decode cX1_readText 84 = .ok (.getfield 39, 3) := dgX1_readText_2.2.2.2.2.2.2.2.2.2.2.2.2.2.1
theorem dX1_readText_87 : decode cX1_readText 87 = .ok (.iconst (-1), 1) := dgX1_readText_2.2.2.2.2.2.2.2.2.2.2.2.2.2.2.1
theorem dX1_readText_88 : decode cX1_readText 88 = .ok (.if_icmp .eq 5, 3) := dgX1_readText_2.2.2.2.2.2.2.2.2.2.2.2.2.2.2.2
theorem dgX1_readText_3 : decode cX1_readText 91 = .ok (.aconst_null, 1) ∧ decode cX1_readText 92 = .ok (.areturn, 1) ∧ decode cX1_readText 93 = .ok (.new 58, 3) ∧ decode cX1_readText 96 = .ok (.dup, 1) ∧ decode cX1_readText 97 = .ok (.iload_n 1, 1) ∧ decode cX1_readText 98 = .ok (.aload_n 0, 1) ∧ decode cX1_readText 99 = .ok (.getfield 60, 3) ∧ decode cX1_readText 102 = .ok (.aload_n 0, 1) ∧ decode cX1_readText 103 = .ok (.getfield 9, 3) ∧ decode cX1_readText 106 = .ok (.aload_n 0, 1) ∧ decode cX1_readText 107 = .ok (.getfield 63, 3) ∧ decode cX1_readText 110 = .ok (.invokestatic 66, 3) ∧ decode cX1_readText 113 = .ok (.aload_n 0, 1) ∧ decode cX1_readText 114 = .ok (.getfield 15, 3) ∧ decode cX1_readText 117 = .ok (.aload_n 0, 1) ∧ decode cX1_readText 118 = .ok (.getfield 63, 3) := by decide +kernel
theorem dX1_readText_91 : decode cX1_readText 91 = .ok (.aconst_null, 1) := dgX1_readText_3.1
theorem dX1_readText_92 : decode cX1_readText 92 = .ok (.areturn, 1) := dgX1_readText_3.2.1
theorem dX1_readText_93 : decode cX1_readText 93 = .ok (.new 58, 3) := dgX1_readText_3.2.2.1
theorem dX1_readText_96 : decode cX1_readText 96 = .ok (.dup, 1) := dgX1_readText_3.2.2.2.1
theorem dX1_readText_97 : decode cX1_readText 97 = .ok (.iload_n 1, 1) := dgX1_readText_3.2.2.2.2.1
theorem dX1_readText_98 : decode cX1_readText 98 = .ok (.aload_n 0, 1) := dgX1_readText_3.2.2.2.2.2.1
theorem dX1_readText_99 : decode cX1_readText 99 = .ok (.getfield 60, 3) := dgX1_readText_3.2.2.2.2.2.2.1
theorem dX1_readText_102 : decode cX1_readText 102 = .ok (.aload_n 0, 1) := dgX1_readText_3.2.2.2.2.2.2.2.1
theorem dX1_readText_103 : decode cX1_readText 103 = .ok (.getfield 9, 3) := dgX1_readText_3.2.2.2.2.2.2.2.2.1
theorem dX1_readText_106 : decode cX1_readText 106 = .ok (.aload_n 0, 1) := dgX1_readText_3.2.2.2.2.2.2.2.2.2.1
theorem dX1_readText_107 : decode cX1_readText 107 = .ok (.getfield 63, 3) := dgX1_readText_3.2.2.2.2.2.2.2.2.2.2.1
theorem dX1_readText_110 : decode cX1_readText 110 = .ok (.invokestatic 66, 3) := dgX1_readText_3.2.2.2.2.2.2.2.2.2.2.2.1
theorem dX1_readText_113 : decode cX1_readText 113 = .ok (.aload_n 0, 1) := dgX1_readText_3.2.2.2.2.2.2.2.2.2.2.2.2.1
theorem dX1_readText_114 : decode cX1_readText 114 = .ok (.getfield 15, 3) := dgX1_readText_3.2.2.2.2.2.2.2.2.2.2.2.2.2.1
theorem dX1_readText_117 : decode cX1_readText 117 = .ok (.aload_n 0, 1) := dgX1_readText_3.2.2.2.2.2.2.2.2.2.2.2.2.2.2.1
theorem dX1_readText_118 : decode cX1_readText 118 = .ok (.getfield 63, 3) := dgX1_readText_3.2.2.2.2.2.2.2.2.2.2.2.2.2.2.2
theorem dgX1_readText_4 : decode cX1_readText 121 = .ok (.invokestatic 66, 3) ∧ decode cX1_readText 124 = .ok (.invokespecial 72, 3) ∧ decode cX1_readText 127 = .ok (.areturn, 1) := by decide +kernel
theorem dX1_readText_121 : decode cX1_readText 121 = .ok (.invokestatic 66, 3) := dgX1_readText_4.1
theorem dX1_readText_124 : decode cX1_readText 124 = .ok (.invokespecial 72, 3) := dgX1_readText_4.2.1
theorem dX1_readText_127 : decode cX1_readText 127 = .ok (.areturn, 1) := dgX1_readText_4.2.2
abbrev pX1_readText : List Nat := [0, 24, 34, 44, 46, 83, 93]
def bX1_readText_0 (cal : ab_F) : ab_K := o_aload 0 <| o_callV cal 6 0 0 <| o_aload 0 <| o_callV cal 7 0 0 <| o_istore 1 <| o_iload 1 <| o_push (.int (-1)) <| o_cmp (fun x y => decide (¬ x = y)) 1 <| o_aload 0 <| o_aload 0 <| o_getf 0 8 <| o_putI 0 0 <| o_push .null <| o_ret (some (.object "DominoKing$Text"))
def bX1_readText_1 (cal : ab_F) : ab_K := o_aload 0 <| o_iload 1 <| o_if (fun x => decide (¬ x = 0)) 2 <| o_push (.ref (1000000 + 6)) <| o_goto 4
def bX1_readText_2 (cal : ab_F) : ab_K := o_iload 1 <| o_push (.int 1) <| o_cmp (fun x y => decide (¬ x = y)) 3 <| o_push (.ref (1000000 + 7)) <| o_goto 4
def bX1_readText_3 (cal : ab_F) : ab_K := o_push (.ref (1000000 + 8)) <| o_goto 4
def bX1_readText_4 (cal : ab_F) : ab_K := o_putA 0 6 <| o_aload 0 <| o_callV cal 9 0 0 <| o_aload 0 <| o_push (.int 0) <| o_push (.int 0) <| o_push (.int 0) <| o_callV cal 12 3 0 <| o_aload 0 <| o_getf 0 0 <| o_push (.int (-1)) <| o_cmp (fun x y => decide (¬ x = y)) 5 <| o_aload 0 <| o_getf 0 7 <| o_if (fun x => decide (x = 0)) 5 <| o_aload 0 <| o_aload 0 <| o_getf 0 8 <| o_putI 0 0 <| o_goto 5
def bX1_readText_5 (cal : ab_F) : ab_K := o_aload 0 <| o_getf 0 0 <| o_push (.int (-1)) <| o_cmp (fun x y => decide (x = y)) 6 <| o_push .null <| o_ret (some (.object "DominoKing$Text"))
def bX1_readText_6 (cal : ab_F) : ab_K := o_new 5 [.int 0, .int 0, .null, .null, .null] <| o_dup <| o_iload 1 <| o_aload 0 <| o_getf 0 5 <| o_aload 0 <| o_getf 0 2 <| o_aload 0 <| o_getf 0 4 <| o_callS cal 251 2 <| o_aload 0 <| o_getf 0 3 <| o_aload 0 <| o_getf 0 4 <| o_callS cal 251 2 <| o_callI cal 62 4 <| o_ret (some (.object "DominoKing$Text"))
def bX1_readText (cal : ab_F) : List ab_K := [bX1_readText_0 cal, bX1_readText_1 cal, bX1_readText_2 cal, bX1_readText_3 cal, bX1_readText_4 cal, bX1_readText_5 cal, bX1_readText_6 cal]
set_option maxRecDepth 100000 in
theorem sX1_readText_0 {G : ab_G} {xs : List Int32} {d : Nat} {cal : ab_F} (hcs : ab_CS G (ab_Z G xs) ab_Mf cal d) : ab_Sd G (ab_Z G xs) (d + 1) (ab_mY mX1_readText pX1_readText) 0 (bX1_readText_0 cal) :=
  sn_aload_n dX1_readText_0 rfl <| sq_callV mt_6 hcs dX1_readText_1 rfl w_673 w_675 w_2 w_60 w_676 hy_6 hm_6 <| sn_aload_n dX1_readText_4 rfl <| sq_callV mt_7 hcs dX1_readText_5 rfl w_685 w_687 w_5 w_60 w_688 hy_7 hm_7 <| sn_istore_n dX1_readText_8 rfl (by decide) <| sn_iload_n dX1_readText_9 rfl <| sn_iconst dX1_readText_10 rfl <| sn_cmp_ne (tg := 24) dX1_readText_11 rfl rfl <| sn_aload_n dX1_readText_14 rfl <| sn_aload_n dX1_readText_15 rfl <| sn_getf dX1_readText_16 rfl hinX1 (by decide) w_205 <| sn_putI tyX1 tyX1_ok nmX1 dX1_readText_19 rfl hinX1 (by decide) w_196 (Or.inl rfl) (tyX1_ok 0 (by decide)) <| sn_null dX1_readText_22 <| sn_ret dX1_readText_23 ab_ri_obj
set_option maxRecDepth 100000 in
theorem sX1_readText_1 {G : ab_G} {xs : List Int32} {d : Nat} {cal : ab_F} (hcs : ab_CS G (ab_Z G xs) ab_Mf cal d) : ab_Sd G (ab_Z G xs) (d + 1) (ab_mY mX1_readText pX1_readText) 24 (bX1_readText_1 cal) :=
  sn_aload_n dX1_readText_24 rfl <| sn_iload_n dX1_readText_25 rfl <| sn_if_ne (tg := 34) dX1_readText_26 rfl rfl <| sn_ldcS dX1_readText_29 (fun U h => h.2.2.1 4 _ rfl) <| sn_goto (tg := 46) dX1_readText_31 rfl rfl
set_option maxRecDepth 100000 in
theorem sX1_readText_2 {G : ab_G} {xs : List Int32} {d : Nat} {cal : ab_F} (hcs : ab_CS G (ab_Z G xs) ab_Mf cal d) : ab_Sd G (ab_Z G xs) (d + 1) (ab_mY mX1_readText pX1_readText) 34 (bX1_readText_2 cal) :=
  sn_iload_n dX1_readText_34 rfl <| sn_iconst dX1_readText_35 rfl <| sn_cmp_ne (tg := 44) dX1_readText_36 rfl rfl <| sn_ldcS dX1_readText_39 (fun U h => h.2.2.1 5 _ rfl) <| sn_goto (tg := 46) dX1_readText_41 rfl rfl
set_option maxRecDepth 100000 in
theorem sX1_readText_3 {G : ab_G} {xs : List Int32} {d : Nat} {cal : ab_F} (hcs : ab_CS G (ab_Z G xs) ab_Mf cal d) : ab_Sd G (ab_Z G xs) (d + 1) (ab_mY mX1_readText pX1_readText) 44 (bX1_readText_3 cal) :=
  sn_ldcS dX1_readText_44 (fun U h => h.2.2.1 6 _ rfl) <| sn_next rfl
set_option maxRecDepth 100000 in
theorem sX1_readText_4 {G : ab_G} {xs : List Int32} {d : Nat} {cal : ab_F} (hcs : ab_CS G (ab_Z G xs) ab_Mf cal d) : ab_Sd G (ab_Z G xs) (d + 1) (ab_mY mX1_readText pX1_readText) 46 (bX1_readText_4 cal) :=
  sn_putA tyX1 tyX1_ok nmX1 dX1_readText_46 rfl hinX1 (by decide) w_203 (Or.inl rfl) (tyX1_ok 6 (by decide)) (fun _ => ⟨rfl, rfl⟩) ⟨rfl, rfl⟩ <| sn_aload_n dX1_readText_49 rfl <| sq_callV mt_9 hcs dX1_readText_50 rfl w_677 w_679 w_3 w_60 w_680 hy_9 hm_9 <| sn_aload_n dX1_readText_53 rfl <| sn_iconst dX1_readText_54 rfl <| sn_iconst dX1_readText_55 rfl <| sn_iconst dX1_readText_56 rfl <| sq_callV mt_12 hcs dX1_readText_57 rfl w_747 w_749 w_7 w_60 w_750 hy_12 hm_12 <| sn_aload_n dX1_readText_60 rfl <| sn_getf dX1_readText_61 rfl hinX1 (by decide) w_196 <| sn_iconst dX1_readText_64 rfl <| sn_cmp_ne (tg := 83) dX1_readText_65 rfl rfl <| sn_aload_n dX1_readText_68 rfl <| sn_getf dX1_readText_69 rfl hinX1 (by decide) w_204 <| sn_if_eq (tg := 83) dX1_readText_72 rfl rfl <| sn_aload_n dX1_readText_75 rfl <| sn_aload_n dX1_readText_76 rfl <| sn_getf dX1_readText_77 rfl hinX1 (by decide) w_205 <| sn_putI tyX1 tyX1_ok nmX1 dX1_readText_80 rfl hinX1 (by decide) w_196 (Or.inl rfl) (tyX1_ok 0 (by decide)) <| sn_next rfl
set_option maxRecDepth 100000 in
theorem sX1_readText_5 {G : ab_G} {xs : List Int32} {d : Nat} {cal : ab_F} (hcs : ab_CS G (ab_Z G xs) ab_Mf cal d) : ab_Sd G (ab_Z G xs) (d + 1) (ab_mY mX1_readText pX1_readText) 83 (bX1_readText_5 cal) :=
  sn_aload_n dX1_readText_83 rfl <| sn_getf dX1_readText_84 rfl hinX1 (by decide) w_196 <| sn_iconst dX1_readText_87 rfl <| sn_cmp_eq (tg := 93) dX1_readText_88 rfl rfl <| sn_null dX1_readText_91 <| sn_ret dX1_readText_92 ab_ri_obj
set_option maxRecDepth 100000 in
theorem sX1_readText_6 {G : ab_G} {xs : List Int32} {d : Nat} {cal : ab_F} (hcs : ab_CS G (ab_Z G xs) ab_Mf cal d) : ab_Sd G (ab_Z G xs) (d + 1) (ab_mY mX1_readText pX1_readText) 93 (bX1_readText_6 cal) :=
  sn_new tyX6 tyX6_ok dX1_readText_93 rfl hinX6 w_837 w_838 w_65 rfl <| sn_dup dX1_readText_96 <| sn_iload_n dX1_readText_97 rfl <| sn_aload_n dX1_readText_98 rfl <| sn_getf dX1_readText_99 rfl hinX1 (by decide) w_202 <| sn_aload_n dX1_readText_102 rfl <| sn_getf dX1_readText_103 rfl hinX1 (by decide) w_199 <| sn_aload_n dX1_readText_106 rfl <| sn_getf dX1_readText_107 rfl hinX1 (by decide) w_201 <| sq_callS mt_251 hcs dX1_readText_110 w_839 w_840 w_57 w_841 hy_251 hm_251 <| sn_aload_n dX1_readText_113 rfl <| sn_getf dX1_readText_114 rfl hinX1 (by decide) w_200 <| sn_aload_n dX1_readText_117 rfl <| sn_getf dX1_readText_118 rfl hinX1 (by decide) w_201 <| sq_callS mt_251 hcs dX1_readText_121 w_839 w_840 w_57 w_841 hy_251 hm_251 <| sq_callI mt_62 hcs dX1_readText_124 w_851 w_852 w_65 rfl rfl w_853 hy_62 hm_62 <| sn_ret dX1_readText_127 ab_ri_obj
theorem sX1_readText {G : ab_G} {xs : List Int32} {d : Nat} {cal : ab_F} (hcs : ab_CS G (ab_Z G xs) ab_Mf cal d) : ab_BS G (ab_Z G xs) (d + 1) (ab_mY mX1_readText pX1_readText) pX1_readText (bX1_readText cal) := ⟨sX1_readText_0 hcs, sX1_readText_1 hcs, sX1_readText_2 hcs, sX1_readText_3 hcs, sX1_readText_4 hcs, sX1_readText_5 hcs, sX1_readText_6 hcs, trivial⟩
theorem dgX1_begin_0 : decode cX1_begin 0 = .ok (.aload_n 0, 1) ∧ decode cX1_begin 1 = .ok (.iconst (-1), 1) ∧ decode cX1_begin 2 = .ok (.putfield 39, 3) ∧ decode cX1_begin 5 = .ok (.aload_n 0, 1) ∧ decode cX1_begin 6 = .ok (.iconst 0, 1) ∧ decode cX1_begin 7 = .ok (.putfield 63, 3) ∧ decode cX1_begin 10 = .ok (.aload_n 0, 1) ∧ decode cX1_begin 11 = .ok (.iconst 0, 1) ∧ decode cX1_begin 12 = .ok (.putfield 60, 3) ∧ decode cX1_begin 15 = .ok (.aload_n 0, 1) ∧ decode cX1_begin 16 = .ok (.iconst 3, 1) ∧ decode cX1_begin 17 = .ok (.putfield 55, 3) ∧ decode cX1_begin 20 = .ok (.aload_n 0, 1) ∧ decode cX1_begin 21 = .ok (.iconst 0, 1) ∧ decode cX1_begin 22 = .ok (.putfield 75, 3) ∧ decode cX1_begin 25 = .ok (.aload_n 0, 1) := by decide +kernel
theorem dX1_begin_0 : decode cX1_begin 0 = .ok (.aload_n 0, 1) := dgX1_begin_0.1
theorem dX1_begin_1 : decode cX1_begin 1 = .ok (.iconst (-1), 1) := dgX1_begin_0.2.1
theorem dX1_begin_2 : decode cX1_begin 2 = .ok (.putfield 39, 3) := dgX1_begin_0.2.2.1
theorem dX1_begin_5 : decode cX1_begin 5 = .ok (.aload_n 0, 1) := dgX1_begin_0.2.2.2.1
theorem dX1_begin_6 : decode cX1_begin 6 = .ok (.iconst 0, 1) := dgX1_begin_0.2.2.2.2.1
theorem dX1_begin_7 : decode cX1_begin 7 = .ok (.putfield 63, 3) := dgX1_begin_0.2.2.2.2.2.1
theorem dX1_begin_10 : decode cX1_begin 10 = .ok (.aload_n 0, 1) := dgX1_begin_0.2.2.2.2.2.2.1
theorem dX1_begin_11 : decode cX1_begin 11 = .ok (.iconst 0, 1) := dgX1_begin_0.2.2.2.2.2.2.2.1
theorem dX1_begin_12 : decode cX1_begin 12 = .ok (.putfield 60, 3) := dgX1_begin_0.2.2.2.2.2.2.2.2.1
theorem dX1_begin_15 : decode cX1_begin 15 = .ok (.aload_n 0, 1) := dgX1_begin_0.2.2.2.2.2.2.2.2.2.1
theorem dX1_begin_16 : decode cX1_begin 16 = .ok (.iconst 3, 1) := dgX1_begin_0.2.2.2.2.2.2.2.2.2.2.1
theorem dX1_begin_17 : decode cX1_begin 17 = .ok (.putfield 55, 3) := dgX1_begin_0.2.2.2.2.2.2.2.2.2.2.2.1
theorem dX1_begin_20 : decode cX1_begin 20 = .ok (.aload_n 0, 1) := dgX1_begin_0.2.2.2.2.2.2.2.2.2.2.2.2.1
theorem dX1_begin_21 : decode cX1_begin 21 = .ok (.iconst 0, 1) := dgX1_begin_0.2.2.2.2.2.2.2.2.2.2.2.2.2.1
theorem dX1_begin_22 : decode cX1_begin 22 = .ok (.putfield 75, 3) := dgX1_begin_0.2.2.2.2.2.2.2.2.2.2.2.2.2.2.1
theorem dX1_begin_25 : decode cX1_begin 25 = .ok (.aload_n 0, 1) := dgX1_begin_0.2.2.2.2.2.2.2.2.2.2.2.2.2.2.2
theorem dgX1_begin_1 : decode cX1_begin 26 = .ok (.invokevirtual 48, 3) ∧ decode cX1_begin 29 = .ok (.return_, 1) := by decide +kernel
theorem dX1_begin_26 : decode cX1_begin 26 = .ok (.invokevirtual 48, 3) := dgX1_begin_1.1
theorem dX1_begin_29 : decode cX1_begin 29 = .ok (.return_, 1) := dgX1_begin_1.2
abbrev pX1_begin : List Nat := [0]
def bX1_begin_0 (cal : ab_F) : ab_K := o_aload 0 <| o_push (.int (-1)) <| o_putI 0 0 <| o_aload 0 <| o_push (.int 0) <| o_putI 0 4 <| o_aload 0 <| o_push (.int 0) <| o_putI 0 5 <| o_aload 0 <| o_push (.int 3) <| o_putI 0 7 <| o_aload 0 <| o_push (.int 0) <| o_putI 0 9 <| o_aload 0 <| o_callV cal 9 0 0 <| o_ret none
def bX1_begin (cal : ab_F) : List ab_K := [bX1_begin_0 cal]
set_option maxRecDepth 100000 in
theorem sX1_begin_0 {G : ab_G} {xs : List Int32} {d : Nat} {cal : ab_F} (hcs : ab_CS G (ab_Z G xs) ab_Mf cal d) : ab_Sd G (ab_Z G xs) (d + 1) (ab_mY mX1_begin pX1_begin) 0 (bX1_begin_0 cal) :=
  sn_aload_n dX1_begin_0 rfl <| sn_iconst dX1_begin_1 rfl <| sn_putI tyX1 tyX1_ok nmX1 dX1_begin_2 rfl hinX1 (by decide) w_196 (Or.inl rfl) (tyX1_ok 0 (by decide)) <| sn_aload_n dX1_begin_5 rfl <| sn_iconst dX1_begin_6 rfl <| sn_putI tyX1 tyX1_ok nmX1 dX1_begin_7 rfl hinX1 (by decide) w_201 (Or.inl rfl) (tyX1_ok 4 (by decide)) <| sn_aload_n dX1_begin_10 rfl <| sn_iconst dX1_begin_11 rfl <| sn_putI tyX1 tyX1_ok nmX1 dX1_begin_12 rfl hinX1 (by decide) w_202 (Or.inl rfl) (tyX1_ok 5 (by decide)) <| sn_aload_n dX1_begin_15 rfl <| sn_iconst dX1_begin_16 rfl <| sn_putI tyX1 tyX1_ok nmX1 dX1_begin_17 rfl hinX1 (by decide) w_204 (Or.inl rfl) (tyX1_ok 7 (by decide)) <| sn_aload_n dX1_begin_20 rfl <| sn_iconst dX1_begin_21 rfl <| sn_putI tyX1 tyX1_ok nmX1 dX1_begin_22 rfl hinX1 (by decide) w_206 (Or.inl rfl) (tyX1_ok 9 (by decide)) <| sn_aload_n dX1_begin_25 rfl <| sq_callV mt_9 hcs dX1_begin_26 rfl w_677 w_679 w_3 w_60 w_680 hy_9 hm_9 <| sn_ret dX1_begin_29 ab_ri_void
theorem sX1_begin {G : ab_G} {xs : List Int32} {d : Nat} {cal : ab_F} (hcs : ab_CS G (ab_Z G xs) ab_Mf cal d) : ab_BS G (ab_Z G xs) (d + 1) (ab_mY mX1_begin pX1_begin) pX1_begin (bX1_begin cal) := ⟨sX1_begin_0 hcs, trivial⟩
theorem dgX1_keyAtHand_0 : decode cX1_keyAtHand 0 = .ok (.aload_n 0, 1) ∧ decode cX1_keyAtHand 1 = .ok (.ldc 78, 2) ∧ decode cX1_keyAtHand 3 = .ok (.invokevirtual 80, 3) ∧ decode cX1_keyAtHand 6 = .ok (.ifCond .eq 5, 3) ∧ decode cX1_keyAtHand 9 = .ok (.iconst 0, 1) ∧ decode cX1_keyAtHand 10 = .ok (.ireturn, 1) ∧ decode cX1_keyAtHand 11 = .ok (.aload_n 0, 1) ∧ decode cX1_keyAtHand 12 = .ok (.ldc 84, 2) ∧ decode cX1_keyAtHand 14 = .ok (.invokevirtual 80, 3) ∧ decode cX1_keyAtHand 17 = .ok (.ifCond .eq 5, 3) ∧ decode cX1_keyAtHand 20 = .ok (.iconst 1, 1) ∧ decode cX1_keyAtHand 21 = .ok (.ireturn, 1) ∧ decode cX1_keyAtHand 22 = .ok (.aload_n 0, 1) ∧ decode cX1_keyAtHand 23 = .ok (.ldc 86, 2) ∧ decode cX1_keyAtHand 25 = .ok (.invokevirtual 80, 3) ∧ decode cX1_keyAtHand 28 = .ok (.ifCond .eq 7, 3) := by decide +kernel
theorem dX1_keyAtHand_0 : decode cX1_keyAtHand 0 = .ok (.aload_n 0, 1) := dgX1_keyAtHand_0.1
theorem dX1_keyAtHand_1 : decode cX1_keyAtHand 1 = .ok (.ldc 78, 2) := dgX1_keyAtHand_0.2.1
theorem dX1_keyAtHand_3 : decode cX1_keyAtHand 3 = .ok (.invokevirtual 80, 3) := dgX1_keyAtHand_0.2.2.1
theorem dX1_keyAtHand_6 : decode cX1_keyAtHand 6 = .ok (.ifCond .eq 5, 3) := dgX1_keyAtHand_0.2.2.2.1
theorem dX1_keyAtHand_9 : decode cX1_keyAtHand 9 = .ok (.iconst 0, 1) := dgX1_keyAtHand_0.2.2.2.2.1
theorem dX1_keyAtHand_10 : decode cX1_keyAtHand 10 = .ok (.ireturn, 1) := dgX1_keyAtHand_0.2.2.2.2.2.1
theorem dX1_keyAtHand_11 : decode cX1_keyAtHand 11 = .ok (.aload_n 0, 1) := dgX1_keyAtHand_0.2.2.2.2.2.2.1
theorem dX1_keyAtHand_12 : decode cX1_keyAtHand 12 = .ok (.ldc 84, 2) := dgX1_keyAtHand_0.2.2.2.2.2.2.2.1
theorem dX1_keyAtHand_14 : decode cX1_keyAtHand 14 = .ok (.invokevirtual 80, 3) := dgX1_keyAtHand_0.2.2.2.2.2.2.2.2.1
theorem dX1_keyAtHand_17 : decode cX1_keyAtHand 17 = .ok (.ifCond .eq 5, 3) := dgX1_keyAtHand_0.2.2.2.2.2.2.2.2.2.1
theorem dX1_keyAtHand_20 : decode cX1_keyAtHand 20 = .ok (.iconst 1, 1) := dgX1_keyAtHand_0.2.2.2.2.2.2.2.2.2.2.1
theorem dX1_keyAtHand_21 : decode cX1_keyAtHand 21 = .ok (.ireturn, 1) := dgX1_keyAtHand_0.2.2.2.2.2.2.2.2.2.2.2.1
theorem dX1_keyAtHand_22 : decode cX1_keyAtHand 22 = .ok (.aload_n 0, 1) := dgX1_keyAtHand_0.2.2.2.2.2.2.2.2.2.2.2.2.1
theorem dX1_keyAtHand_23 : decode cX1_keyAtHand 23 = .ok (.ldc 86, 2) := dgX1_keyAtHand_0.2.2.2.2.2.2.2.2.2.2.2.2.2.1
theorem dX1_keyAtHand_25 : decode cX1_keyAtHand 25 = .ok (.invokevirtual 80, 3) := dgX1_keyAtHand_0.2.2.2.2.2.2.2.2.2.2.2.2.2.2.1
theorem dX1_keyAtHand_28 : decode cX1_keyAtHand 28 = .ok (.ifCond .eq 7, 3) := dgX1_keyAtHand_0.2.2.2.2.2.2.2.2.2.2.2.2.2.2.2
theorem dgX1_keyAtHand_1 : decode cX1_keyAtHand 31 = .ok (.iconst 2, 1) ∧ decode cX1_keyAtHand 32 = .ok (.goto 4, 3) ∧ decode cX1_keyAtHand 35 = .ok (.iconst (-1), 1) ∧ decode cX1_keyAtHand 36 = .ok (.ireturn, 1) := by decide +kernel
theorem dX1_keyAtHand_31 : decode cX1_keyAtHand 31 = .ok (.iconst 2, 1) := dgX1_keyAtHand_1.1
theorem dX1_keyAtHand_32 : decode cX1_keyAtHand 32 = .ok (.goto 4, 3) := dgX1_keyAtHand_1.2.1
theorem dX1_keyAtHand_35 : decode cX1_keyAtHand 35 = .ok (.iconst (-1), 1) := dgX1_keyAtHand_1.2.2.1
theorem dX1_keyAtHand_36 : decode cX1_keyAtHand 36 = .ok (.ireturn, 1) := dgX1_keyAtHand_1.2.2.2
abbrev pX1_keyAtHand : List Nat := [0, 11, 22, 35, 36]
def bX1_keyAtHand_0 (cal : ab_F) : ab_K := o_aload 0 <| o_push (.ref (1000000 + 3)) <| o_callV cal 8 1 0 <| o_if (fun x => decide (x = 0)) 1 <| o_push (.int 0) <| o_ret (some .int)
def bX1_keyAtHand_1 (cal : ab_F) : ab_K := o_aload 0 <| o_push (.ref (1000000 + 4)) <| o_callV cal 8 1 0 <| o_if (fun x => decide (x = 0)) 2 <| o_push (.int 1) <| o_ret (some .int)
def bX1_keyAtHand_2 (cal : ab_F) : ab_K := o_aload 0 <| o_push (.ref (1000000 + 5)) <| o_callV cal 8 1 0 <| o_if (fun x => decide (x = 0)) 3 <| o_push (.int 2) <| o_goto 4
def bX1_keyAtHand_3 (cal : ab_F) : ab_K := o_push (.int (-1)) <| o_goto 4
def bX1_keyAtHand_4 (cal : ab_F) : ab_K := o_ret (some .int)
def bX1_keyAtHand (cal : ab_F) : List ab_K := [bX1_keyAtHand_0 cal, bX1_keyAtHand_1 cal, bX1_keyAtHand_2 cal, bX1_keyAtHand_3 cal, bX1_keyAtHand_4 cal]
set_option maxRecDepth 100000 in
theorem sX1_keyAtHand_0 {G : ab_G} {xs : List Int32} {d : Nat} {cal : ab_F} (hcs : ab_CS G (ab_Z G xs) ab_Mf cal d) : ab_Sd G (ab_Z G xs) (d + 1) (ab_mY mX1_keyAtHand pX1_keyAtHand) 0 (bX1_keyAtHand_0 cal) :=
  sn_aload_n dX1_keyAtHand_0 rfl <| sn_ldcS dX1_keyAtHand_1 (fun U h => h.2.2.1 1 _ rfl) <| sq_callV mt_8 hcs dX1_keyAtHand_3 rfl w_690 w_692 w_6 w_60 w_693 hy_8 hm_8 <| sn_if_eq (tg := 11) dX1_keyAtHand_6 rfl rfl <| sn_iconst dX1_keyAtHand_9 rfl <| sn_ret dX1_keyAtHand_10 ab_ri_int
set_option maxRecDepth 100000 in
theorem sX1_keyAtHand_1 {G : ab_G} {xs : List Int32} {d : Nat} {cal : ab_F} (hcs : ab_CS G (ab_Z G xs) ab_Mf cal d) : ab_Sd G (ab_Z G xs) (d + 1) (ab_mY mX1_keyAtHand pX1_keyAtHand) 11 (bX1_keyAtHand_1 cal) :=
  sn_aload_n dX1_keyAtHand_11 rfl <| sn_ldcS dX1_keyAtHand_12 (fun U h => h.2.2.1 2 _ rfl) <| sq_callV mt_8 hcs dX1_keyAtHand_14 rfl w_690 w_692 w_6 w_60 w_693 hy_8 hm_8 <| sn_if_eq (tg := 22) dX1_keyAtHand_17 rfl rfl <| sn_iconst dX1_keyAtHand_20 rfl <| sn_ret dX1_keyAtHand_21 ab_ri_int
set_option maxRecDepth 100000 in
theorem sX1_keyAtHand_2 {G : ab_G} {xs : List Int32} {d : Nat} {cal : ab_F} (hcs : ab_CS G (ab_Z G xs) ab_Mf cal d) : ab_Sd G (ab_Z G xs) (d + 1) (ab_mY mX1_keyAtHand pX1_keyAtHand) 22 (bX1_keyAtHand_2 cal) :=
  sn_aload_n dX1_keyAtHand_22 rfl <| sn_ldcS dX1_keyAtHand_23 (fun U h => h.2.2.1 3 _ rfl) <| sq_callV mt_8 hcs dX1_keyAtHand_25 rfl w_690 w_692 w_6 w_60 w_693 hy_8 hm_8 <| sn_if_eq (tg := 35) dX1_keyAtHand_28 rfl rfl <| sn_iconst dX1_keyAtHand_31 rfl <| sn_goto (tg := 36) dX1_keyAtHand_32 rfl rfl
set_option maxRecDepth 100000 in
theorem sX1_keyAtHand_3 {G : ab_G} {xs : List Int32} {d : Nat} {cal : ab_F} (hcs : ab_CS G (ab_Z G xs) ab_Mf cal d) : ab_Sd G (ab_Z G xs) (d + 1) (ab_mY mX1_keyAtHand pX1_keyAtHand) 35 (bX1_keyAtHand_3 cal) :=
  sn_iconst dX1_keyAtHand_35 rfl <| sn_next rfl
set_option maxRecDepth 100000 in
theorem sX1_keyAtHand_4 {G : ab_G} {xs : List Int32} {d : Nat} {cal : ab_F} (hcs : ab_CS G (ab_Z G xs) ab_Mf cal d) : ab_Sd G (ab_Z G xs) (d + 1) (ab_mY mX1_keyAtHand pX1_keyAtHand) 36 (bX1_keyAtHand_4 cal) :=
  sn_ret dX1_keyAtHand_36 ab_ri_int
theorem sX1_keyAtHand {G : ab_G} {xs : List Int32} {d : Nat} {cal : ab_F} (hcs : ab_CS G (ab_Z G xs) ab_Mf cal d) : ab_BS G (ab_Z G xs) (d + 1) (ab_mY mX1_keyAtHand pX1_keyAtHand) pX1_keyAtHand (bX1_keyAtHand cal) := ⟨sX1_keyAtHand_0 hcs, sX1_keyAtHand_1 hcs, sX1_keyAtHand_2 hcs, sX1_keyAtHand_3 hcs, sX1_keyAtHand_4 hcs, trivial⟩
theorem dgX1_wordIs_0 : decode cX1_wordIs 0 = .ok (.aload_n 0, 1) ∧ decode cX1_wordIs 1 = .ok (.getfield 55, 3) ∧ decode cX1_wordIs 4 = .ok (.iconst 1, 1) ∧ decode cX1_wordIs 5 = .ok (.if_icmp .ne 19, 3) ∧ decode cX1_wordIs 8 = .ok (.aload_n 0, 1) ∧ decode cX1_wordIs 9 = .ok (.getfield 75, 3) ∧ decode cX1_wordIs 12 = .ok (.aload_n 0, 1) ∧ decode cX1_wordIs 13 = .ok (.getfield 35, 3) ∧ decode cX1_wordIs 16 = .ok (.isub, 1) ∧ decode cX1_wordIs 17 = .ok (.aload_n 1, 1) ∧ decode cX1_wordIs 18 = .ok (.invokevirtual 88, 3) ∧ decode cX1_wordIs 21 = .ok (.if_icmp .eq 5, 3) ∧ decode cX1_wordIs 24 = .ok (.iconst 0, 1) ∧ decode cX1_wordIs 25 = .ok (.ireturn, 1) ∧ decode cX1_wordIs 26 = .ok (.iconst 0, 1) ∧ decode cX1_wordIs 27 = .ok (.istore_n 2, 1) := by decide +kernel
theorem dX1_wordIs_0 : decode cX1_wordIs 0 = .ok (.aload_n 0, 1) := dgX1_wordIs_0.1
theorem dX1_wordIs_1 : decode cX1_wordIs 1 = .ok (.getfield 55, 3) := dgX1_wordIs_0.2.1
theorem dX1_wordIs_4 : decode cX1_wordIs 4 = .ok (.iconst 1, 1) := dgX1_wordIs_0.2.2.1
theorem dX1_wordIs_5 : decode cX1_wordIs 5 = .ok (.if_icmp .ne 19, 3) := dgX1_wordIs_0.2.2.2.1
theorem dX1_wordIs_8 : decode cX1_wordIs 8 = .ok (.aload_n 0, 1) := dgX1_wordIs_0.2.2.2.2.1
theorem dX1_wordIs_9 : decode cX1_wordIs 9 = .ok (.getfield 75, 3) := dgX1_wordIs_0.2.2.2.2.2.1
theorem dX1_wordIs_12 : decode cX1_wordIs 12 = .ok (.aload_n 0, 1) := dgX1_wordIs_0.2.2.2.2.2.2.1
theorem dX1_wordIs_13 : decode cX1_wordIs 13 = .ok (.getfield 35, 3) := dgX1_wordIs_0.2.2.2.2.2.2.2.1
theorem dX1_wordIs_16 : decode cX1_wordIs 16 = .ok (.isub, 1) := dgX1_wordIs_0.2.2.2.2.2.2.2.2.1
theorem dX1_wordIs_17 : decode cX1_wordIs 17 = .ok (.aload_n 1, 1) := dgX1_wordIs_0.2.2.2.2.2.2.2.2.2.1
theorem dX1_wordIs_18 : decode cX1_wordIs 18 = .ok (.invokevirtual 88, 3) := dgX1_wordIs_0.2.2.2.2.2.2.2.2.2.2.1
theorem dX1_wordIs_21 : decode cX1_wordIs 21 = .ok (.if_icmp .eq 5, 3) := dgX1_wordIs_0.2.2.2.2.2.2.2.2.2.2.2.1
theorem dX1_wordIs_24 : decode cX1_wordIs 24 = .ok (.iconst 0, 1) := dgX1_wordIs_0.2.2.2.2.2.2.2.2.2.2.2.2.1
theorem dX1_wordIs_25 : decode cX1_wordIs 25 = .ok (.ireturn, 1) := dgX1_wordIs_0.2.2.2.2.2.2.2.2.2.2.2.2.2.1
theorem dX1_wordIs_26 : decode cX1_wordIs 26 = .ok (.iconst 0, 1) := dgX1_wordIs_0.2.2.2.2.2.2.2.2.2.2.2.2.2.2.1
theorem dX1_wordIs_27 : decode cX1_wordIs 27 = .ok (.istore_n 2, 1) := dgX1_wordIs_0.2.2.2.2.2.2.2.2.2.2.2.2.2.2.2
theorem dgX1_wordIs_1 : decode cX1_wordIs 28 = .ok (.iload_n 2, 1) ∧ decode cX1_wordIs 29 = .ok (.aload_n 1, 1) ∧ decode cX1_wordIs 30 = .ok (.invokevirtual 88, 3) ∧ decode cX1_wordIs 33 = .ok (.if_icmp .ge 33, 3) ∧ decode cX1_wordIs 36 = .ok (.aload_n 0, 1) ∧ decode cX1_wordIs 37 = .ok (.getfield 24, 3) ∧ decode cX1_wordIs 40 = .ok (.getfield 92, 3) ∧ decode cX1_wordIs 43 = .ok (.aload_n 0, 1) ∧ decode cX1_wordIs 44 = .ok (.getfield 35, 3) ∧ decode cX1_wordIs 47 = .ok (.iload_n 2, 1) ∧ decode cX1_wordIs 48 = .ok (.iadd, 1) ∧ decode cX1_wordIs 49 = .ok (.iaload, 1) ∧ decode cX1_wordIs 50 = .ok (.aload_n 1, 1) ∧ decode cX1_wordIs 51 = .ok (.iload_n 2, 1) ∧ decode cX1_wordIs 52 = .ok (.invokevirtual 97, 3) ∧ decode cX1_wordIs 55 = .ok (.if_icmp .eq 5, 3) := by decide +kernel
theorem dX1_wordIs_28 : decode cX1_wordIs 28 = .ok (.iload_n 2, 1) := dgX1_wordIs_1.1
theorem dX1_wordIs_29 : decode cX1_wordIs 29 = .ok (.aload_n 1, 1) := dgX1_wordIs_1.2.1
theorem dX1_wordIs_30 : decode cX1_wordIs 30 = .ok (.invokevirtual 88, 3) := dgX1_wordIs_1.2.2.1
theorem dX1_wordIs_33 : decode cX1_wordIs 33 = .ok (.if_icmp .ge 33, 3) := dgX1_wordIs_1.2.2.2.1
theorem dX1_wordIs_36 : decode cX1_wordIs 36 = .ok (.aload_n 0, 1) := dgX1_wordIs_1.2.2.2.2.1
theorem dX1_wordIs_37 : decode cX1_wordIs 37 = .ok (.getfield 24, 3) := dgX1_wordIs_1.2.2.2.2.2.1
theorem dX1_wordIs_40 : decode cX1_wordIs 40 = .ok (.getfield 92, 3) := dgX1_wordIs_1.2.2.2.2.2.2.1
theorem dX1_wordIs_43 : decode cX1_wordIs 43 = .ok (.aload_n 0, 1) := dgX1_wordIs_1.2.2.2.2.2.2.2.1
theorem dX1_wordIs_44 : decode cX1_wordIs 44 = .ok (.getfield 35, 3) := dgX1_wordIs_1.2.2.2.2.2.2.2.2.1
theorem dX1_wordIs_47 : decode cX1_wordIs 47 = .ok (.iload_n 2, 1) := dgX1_wordIs_1.2.2.2.2.2.2.2.2.2.1
theorem dX1_wordIs_48 : decode cX1_wordIs 48 = .ok (.iadd, 1) := dgX1_wordIs_1.2.2.2.2.2.2.2.2.2.2.1
theorem dX1_wordIs_49 : decode cX1_wordIs 49 = .ok (.iaload, 1) := dgX1_wordIs_1.2.2.2.2.2.2.2.2.2.2.2.1
theorem dX1_wordIs_50 : decode cX1_wordIs 50 = .ok (.aload_n 1, 1) := dgX1_wordIs_1.2.2.2.2.2.2.2.2.2.2.2.2.1
theorem dX1_wordIs_51 : decode cX1_wordIs 51 = .ok (.iload_n 2, 1) := dgX1_wordIs_1.2.2.2.2.2.2.2.2.2.2.2.2.2.1
theorem dX1_wordIs_52 : decode cX1_wordIs 52 = .ok (.invokevirtual 97, 3) := dgX1_wordIs_1.2.2.2.2.2.2.2.2.2.2.2.2.2.2.1
theorem dX1_wordIs_55 : decode cX1_wordIs 55 = .ok (.if_icmp .eq 5, 3) := dgX1_wordIs_1.2.2.2.2.2.2.2.2.2.2.2.2.2.2.2
theorem dgX1_wordIs_2 : decode cX1_wordIs 58 = .ok (.iconst 0, 1) ∧ decode cX1_wordIs 59 = .ok (.ireturn, 1) ∧ decode cX1_wordIs 60 = .ok (.iinc 2 1, 3) ∧ decode cX1_wordIs 63 = .ok (.goto (-35), 3) ∧ decode cX1_wordIs 66 = .ok (.iconst 1, 1) ∧ decode cX1_wordIs 67 = .ok (.ireturn, 1) := by decide +kernel
theorem dX1_wordIs_58 : decode cX1_wordIs 58 = .ok (.iconst 0, 1) := dgX1_wordIs_2.1
theorem dX1_wordIs_59 : decode cX1_wordIs 59 = .ok (.ireturn, 1) := dgX1_wordIs_2.2.1
theorem dX1_wordIs_60 : decode cX1_wordIs 60 = .ok (.iinc 2 1, 3) := dgX1_wordIs_2.2.2.1
theorem dX1_wordIs_63 : decode cX1_wordIs 63 = .ok (.goto (-35), 3) := dgX1_wordIs_2.2.2.2.1
theorem dX1_wordIs_66 : decode cX1_wordIs 66 = .ok (.iconst 1, 1) := dgX1_wordIs_2.2.2.2.2.1
theorem dX1_wordIs_67 : decode cX1_wordIs 67 = .ok (.ireturn, 1) := dgX1_wordIs_2.2.2.2.2.2
abbrev pX1_wordIs : List Nat := [0, 24, 26, 28, 60, 66]
def bX1_wordIs_0 (cal : ab_F) : ab_K := o_aload 0 <| o_getf 0 7 <| o_push (.int 1) <| o_cmp (fun x y => decide (¬ x = y)) 1 <| o_aload 0 <| o_getf 0 9 <| o_aload 0 <| o_getf 0 8 <| o_bin (fun x y => x - y) <| o_aload 1 <| o_callX cal 229 0 <| o_cmp (fun x y => decide (x = y)) 2 <| o_goto 1
def bX1_wordIs_1 (cal : ab_F) : ab_K := o_push (.int 0) <| o_ret (some .boolean)
def bX1_wordIs_2 (cal : ab_F) : ab_K := o_push (.int 0) <| o_istore 2 <| o_goto 3
def bX1_wordIs_3 (cal : ab_F) : ab_K := o_iload 2 <| o_aload 1 <| o_callX cal 229 0 <| o_cmp (fun x y => decide (y ≤ x)) 5 <| o_aload 0 <| o_getf 0 1 <| o_getf 4 0 <| o_aload 0 <| o_getf 0 8 <| o_iload 2 <| o_bin (fun x y => x + y) <| o_iald 0 <| o_aload 1 <| o_iload 2 <| o_callX cal 230 1 <| o_cmp (fun x y => decide (x = y)) 4 <| o_push (.int 0) <| o_ret (some .boolean)
def bX1_wordIs_4 (cal : ab_F) : ab_K := o_iinc 2 1 <| o_goto 3
def bX1_wordIs_5 (cal : ab_F) : ab_K := o_push (.int 1) <| o_ret (some .boolean)
def bX1_wordIs (cal : ab_F) : List ab_K := [bX1_wordIs_0 cal, bX1_wordIs_1 cal, bX1_wordIs_2 cal, bX1_wordIs_3 cal, bX1_wordIs_4 cal, bX1_wordIs_5 cal]
set_option maxRecDepth 100000 in
theorem sX1_wordIs_0 {G : ab_G} {xs : List Int32} {d : Nat} {cal : ab_F} (hcs : ab_CS G (ab_Z G xs) ab_Mf cal d) : ab_Sd G (ab_Z G xs) (d + 1) (ab_mY mX1_wordIs pX1_wordIs) 0 (bX1_wordIs_0 cal) :=
  sn_aload_n dX1_wordIs_0 rfl <| sn_getf dX1_wordIs_1 rfl hinX1 (by decide) w_204 <| sn_iconst dX1_wordIs_4 rfl <| sn_cmp_ne (tg := 24) dX1_wordIs_5 rfl rfl <| sn_aload_n dX1_wordIs_8 rfl <| sn_getf dX1_wordIs_9 rfl hinX1 (by decide) w_206 <| sn_aload_n dX1_wordIs_12 rfl <| sn_getf dX1_wordIs_13 rfl hinX1 (by decide) w_205 <| sn_isub dX1_wordIs_16 <| sn_aload_n dX1_wordIs_17 rfl <| sq_callX mt_229 hcs dX1_wordIs_18 (fun U h => h.2.2.2.2.2.2.1) w_694 w_695 w_696 w_69 w_697 hy_229 hm_229 <| sn_cmp_eq (tg := 26) dX1_wordIs_21 rfl rfl <| sn_next rfl
set_option maxRecDepth 100000 in
theorem sX1_wordIs_1 {G : ab_G} {xs : List Int32} {d : Nat} {cal : ab_F} (hcs : ab_CS G (ab_Z G xs) ab_Mf cal d) : ab_Sd G (ab_Z G xs) (d + 1) (ab_mY mX1_wordIs pX1_wordIs) 24 (bX1_wordIs_1 cal) :=
  sn_iconst dX1_wordIs_24 rfl <| sn_ret dX1_wordIs_25 ab_ri_bool
set_option maxRecDepth 100000 in
theorem sX1_wordIs_2 {G : ab_G} {xs : List Int32} {d : Nat} {cal : ab_F} (hcs : ab_CS G (ab_Z G xs) ab_Mf cal d) : ab_Sd G (ab_Z G xs) (d + 1) (ab_mY mX1_wordIs pX1_wordIs) 26 (bX1_wordIs_2 cal) :=
  sn_iconst dX1_wordIs_26 rfl <| sn_istore_n dX1_wordIs_27 rfl (by decide) <| sn_next rfl
set_option maxRecDepth 100000 in
theorem sX1_wordIs_3 {G : ab_G} {xs : List Int32} {d : Nat} {cal : ab_F} (hcs : ab_CS G (ab_Z G xs) ab_Mf cal d) : ab_Sd G (ab_Z G xs) (d + 1) (ab_mY mX1_wordIs pX1_wordIs) 28 (bX1_wordIs_3 cal) :=
  sn_iload_n dX1_wordIs_28 rfl <| sn_aload_n dX1_wordIs_29 rfl <| sq_callX mt_229 hcs dX1_wordIs_30 (fun U h => h.2.2.2.2.2.2.1) w_694 w_695 w_696 w_69 w_697 hy_229 hm_229 <| sn_cmp_ge (tg := 66) dX1_wordIs_33 rfl rfl <| sn_aload_n dX1_wordIs_36 rfl <| sn_getf dX1_wordIs_37 rfl hinX1 (by decide) w_198 <| sn_getf dX1_wordIs_40 rfl hinX5 (by decide) w_180 <| sn_aload_n dX1_wordIs_43 rfl <| sn_getf dX1_wordIs_44 rfl hinX1 (by decide) w_205 <| sn_iload_n dX1_wordIs_47 rfl <| sn_iadd dX1_wordIs_48 <| sn_iald dX1_wordIs_49 rfl <| sn_aload_n dX1_wordIs_50 rfl <| sn_iload_n dX1_wordIs_51 rfl <| sq_callX mt_230 hcs dX1_wordIs_52 (fun U h => h.2.2.2.2.2.2.1) w_704 w_705 w_706 w_69 w_707 hy_230 hm_230 <| sn_cmp_eq (tg := 60) dX1_wordIs_55 rfl rfl <| sn_iconst dX1_wordIs_58 rfl <| sn_ret dX1_wordIs_59 ab_ri_bool
set_option maxRecDepth 100000 in
theorem sX1_wordIs_4 {G : ab_G} {xs : List Int32} {d : Nat} {cal : ab_F} (hcs : ab_CS G (ab_Z G xs) ab_Mf cal d) : ab_Sd G (ab_Z G xs) (d + 1) (ab_mY mX1_wordIs pX1_wordIs) 60 (bX1_wordIs_4 cal) :=
  sn_iinc dX1_wordIs_60 rfl (by decide) <| sn_goto (tg := 28) dX1_wordIs_63 rfl rfl
set_option maxRecDepth 100000 in
theorem sX1_wordIs_5 {G : ab_G} {xs : List Int32} {d : Nat} {cal : ab_F} (hcs : ab_CS G (ab_Z G xs) ab_Mf cal d) : ab_Sd G (ab_Z G xs) (d + 1) (ab_mY mX1_wordIs pX1_wordIs) 66 (bX1_wordIs_5 cal) :=
  sn_iconst dX1_wordIs_66 rfl <| sn_ret dX1_wordIs_67 ab_ri_bool
theorem sX1_wordIs {G : ab_G} {xs : List Int32} {d : Nat} {cal : ab_F} (hcs : ab_CS G (ab_Z G xs) ab_Mf cal d) : ab_BS G (ab_Z G xs) (d + 1) (ab_mY mX1_wordIs pX1_wordIs) pX1_wordIs (bX1_wordIs cal) := ⟨sX1_wordIs_0 hcs, sX1_wordIs_1 hcs, sX1_wordIs_2 hcs, sX1_wordIs_3 hcs, sX1_wordIs_4 hcs, sX1_wordIs_5 hcs, trivial⟩
theorem dgX1_step_0 : decode cX1_step 0 = .ok (.aload_n 0, 1) ∧ decode cX1_step 1 = .ok (.getfield 75, 3) ∧ decode cX1_step 4 = .ok (.istore_n 1, 1) ∧ decode cX1_step 5 = .ok (.aload_n 0, 1) ∧ decode cX1_step 6 = .ok (.getfield 55, 3) ∧ decode cX1_step 9 = .ok (.iconst 1, 1) ∧ decode cX1_step 10 = .ok (.if_icmp .eq 11, 3) ∧ decode cX1_step 13 = .ok (.aload_n 0, 1) ∧ decode cX1_step 14 = .ok (.getfield 55, 3) ∧ decode cX1_step 17 = .ok (.iconst 2, 1) ∧ decode cX1_step 18 = .ok (.if_icmp .ne 7, 3) ∧ decode cX1_step 21 = .ok (.iconst 1, 1) ∧ decode cX1_step 22 = .ok (.goto 4, 3) ∧ decode cX1_step 25 = .ok (.iconst 0, 1) ∧ decode cX1_step 26 = .ok (.istore_n 2, 1) ∧ decode cX1_step 27 = .ok (.aload_n 0, 1) := by decide +kernel
theorem dX1_step_0 : decode cX1_step 0 = .ok (.aload_n 0, 1) := dgX1_step_0.1
theorem dX1_step_1 : decode cX1_step 1 = .ok (.getfield 75, 3) := dgX1_step_0.2.1
theorem dX1_step_4 : decode cX1_step 4 = .ok (.istore_n 1, 1) := dgX1_step_0.2.2.1
theorem dX1_step_5 : decode cX1_step 5 = .ok (.aload_n 0, 1) := dgX1_step_0.2.2.2.1
theorem dX1_step_6 : decode cX1_step 6 = .ok (.getfield 55, 3) := dgX1_step_0.2.2.2.2.1
theorem dX1_step_9 : decode cX1_step 9 = .ok (.iconst 1, 1) := dgX1_step_0.2.2.2.2.2.1
theorem dX1_step_10 : decode cX1_step 10 = .ok (.if_icmp .eq 11, 3) := dgX1_step_0.2.2.2.2.2.2.1
theorem dX1_step_13 : decode cX1_step 13 = .ok (.aload_n 0, 1) := dgX1_step_0.2.2.2.2.2.2.2.1
theorem dX1_step_14 : decode cX1_step 14 = .ok (.getfield 55, 3) := dgX1_step_0.2.2.2.2.2.2.2.2.1
theorem dX1_step_17 : decode cX1_step 17 = .ok (.iconst 2, 1) := dgX1_step_0.2.2.2.2.2.2.2.2.2.1
theorem dX1_step_18 : decode cX1_step 18 = .ok (.if_icmp .ne 7, 3) := dgX1_step_0.2.2.2.2.2.2.2.2.2.2.1
theorem dX1_step_21 : decode cX1_step 21 = .ok (.iconst 1, 1) := dgX1_step_0.2.2.2.2.2.2.2.2.2.2.2.1
theorem dX1_step_22 : decode cX1_step 22 = .ok (.goto 4, 3) := dgX1_step_0.2.2.2.2.2.2.2.2.2.2.2.2.1
theorem dX1_step_25 : decode cX1_step 25 = .ok (.iconst 0, 1) := dgX1_step_0.2.2.2.2.2.2.2.2.2.2.2.2.2.1
theorem dX1_step_26 : decode cX1_step 26 = .ok (.istore_n 2, 1) := dgX1_step_0.2.2.2.2.2.2.2.2.2.2.2.2.2.2.1
theorem dX1_step_27 : decode cX1_step 27 = .ok (.aload_n 0, 1) := dgX1_step_0.2.2.2.2.2.2.2.2.2.2.2.2.2.2.2
theorem dgX1_step_1 : decode cX1_step 28 = .ok (.aload_n 0, 1) ∧ decode cX1_step 29 = .ok (.getfield 75, 3) ∧ decode cX1_step 32 = .ok (.putfield 35, 3) ∧ decode cX1_step 35 = .ok (.aload_n 0, 1) ∧ decode cX1_step 36 = .ok (.getfield 35, 3) ∧ decode cX1_step 39 = .ok (.aload_n 0, 1) ∧ decode cX1_step 40 = .ok (.getfield 24, 3) ∧ decode cX1_step 43 = .ok (.getfield 101, 3) ∧ decode cX1_step 46 = .ok (.if_icmp .ge 33, 3) ∧ decode cX1_step 49 = .ok (.aload_n 0, 1) ∧ decode cX1_step 50 = .ok (.getfield 24, 3) ∧ decode cX1_step 53 = .ok (.getfield 92, 3) ∧ decode cX1_step 56 = .ok (.aload_n 0, 1) ∧ decode cX1_step 57 = .ok (.getfield 35, 3) ∧ decode cX1_step 60 = .ok (.iaload, 1) ∧ decode cX1_step 61 = .ok (.bipush 32, 2) := by decide +kernel
theorem dX1_step_28 : decode cX1_step 28 = .ok (.aload_n 0, 1) := dgX1_step_1.1
theorem dX1_step_29 : decode cX1_step 29 = .ok (.getfield 75, 3) := dgX1_step_1.2.1
theorem dX1_step_32 : decode cX1_step 32 = .ok (.putfield 35, 3) := dgX1_step_1.2.2.1
theorem dX1_step_35 : decode cX1_step 35 = .ok (.aload_n 0, 1) := dgX1_step_1.2.2.2.1
theorem dX1_step_36 : decode cX1_step 36 = .ok (.getfield 35, 3) := dgX1_step_1.2.2.2.2.1
theorem dX1_step_39 : decode cX1_step 39 = .ok (.aload_n 0, 1) := dgX1_step_1.2.2.2.2.2.1
theorem dX1_step_40 : decode cX1_step 40 = .ok (.getfield 24, 3) := dgX1_step_1.2.2.2.2.2.2.1
theorem dX1_step_43 : decode cX1_step 43 = .ok (.getfield 101, 3) := dgX1_step_1.2.2.2.2.2.2.2.1
theorem dX1_step_46 : decode cX1_step 46 = .ok (.if_icmp .ge 33, 3) := dgX1_step_1.2.2.2.2.2.2.2.2.1
theorem dX1_step_49 : decode cX1_step 49 = .ok (.aload_n 0, 1) := dgX1_step_1.2.2.2.2.2.2.2.2.2.1
theorem dX1_step_50 : decode cX1_step 50 = .ok (.getfield 24, 3) := dgX1_step_1.2.2.2.2.2.2.2.2.2.2.1
theorem dX1_step_53 : decode cX1_step 53 = .ok (.getfield 92, 3) := dgX1_step_1.2.2.2.2.2.2.2.2.2.2.2.1
theorem dX1_step_56 : decode cX1_step 56 = .ok (.aload_n 0, 1) := dgX1_step_1.2.2.2.2.2.2.2.2.2.2.2.2.1
theorem dX1_step_57 : decode cX1_step 57 = .ok (.getfield 35, 3) := dgX1_step_1.2.2.2.2.2.2.2.2.2.2.2.2.2.1
theorem dX1_step_60 : decode cX1_step 60 = .ok (.iaload, 1) := dgX1_step_1.2.2.2.2.2.2.2.2.2.2.2.2.2.2.1
theorem dX1_step_61 : decode cX1_step 61 = .ok (.bipush 32, 2) := dgX1_step_1.2.2.2.2.2.2.2.2.2.2.2.2.2.2.2
theorem dgX1_step_2 : decode cX1_step 63 = .ok (.if_icmp .ne 16, 3) ∧ decode cX1_step 66 = .ok (.aload_n 0, 1) ∧ decode cX1_step 67 = .ok (.dup, 1) ∧ decode cX1_step 68 = .ok (.getfield 35, 3) ∧ decode cX1_step 71 = .ok (.iconst 1, 1) ∧ decode cX1_step 72 = .ok (.iadd, 1) ∧ decode cX1_step 73 = .ok (.putfield 35, 3) ∧ decode cX1_step 76 = .ok (.goto (-41), 3) ∧ decode cX1_step 79 = .ok (.aload_n 0, 1) ∧ decode cX1_step 80 = .ok (.aload_n 0, 1) ∧ decode cX1_step 81 = .ok (.aload_n 0, 1) ∧ decode cX1_step 82 = .ok (.getfield 35, 3) ∧ decode cX1_step 85 = .ok (.invokevirtual 104, 3) ∧ decode cX1_step 88 = .ok (.putfield 55, 3) ∧ decode cX1_step 91 = .ok (.aload_n 0, 1) ∧ decode cX1_step 92 = .ok (.aload_n 0, 1) := by decide +kernel
theorem dX1_step_63 : decode cX1_step 63 = .ok (.if_icmp .ne 16, 3) := dgX1_step_2.1
theorem dX1_step_66 : decode cX1_step 66 = .ok (.aload_n 0, 1) := dgX1_step_2.2.1
theorem dX1_step_67 : decode cX1_step 67 = .ok (.dup, 1) := dgX1_step_2.2.2.1
theorem dX1_step_68 : decode cX1_step 68 = .ok (.getfield 35, 3) := dgX1_step_2.2.2.2.1
theorem dX1_step_71 : decode cX1_step 71 = .ok (.iconst 1, 1) := dgX1_step_2.2.2.2.2.1
theorem dX1_step_72 : decode cX1_step 72 = .ok (.iadd, 1) := dgX1_step_2.2.2.2.2.2.1
theorem dX1_step_73 : decode cX1_step 73 = .ok (.putfield 35, 3) := dgX1_step_2.2.2.2.2.2.2.1
theorem dX1_step_76 : decode cX1_step 76 = .ok (.goto (-41), 3) := dgX1_step_2.2.2.2.2.2.2.2.1
theorem dX1_step_79 : decode cX1_step 79 = .ok (.aload_n 0, 1) := dgX1_step_2.2.2.2.2.2.2.2.2.1
theorem dX1_step_80 : decode cX1_step 80 = .ok (.aload_n 0, 1) := dgX1_step_2.2.2.2.2.2.2.2.2.2.1
theorem dX1_step_81 : decode cX1_step 81 = .ok (.aload_n 0, 1) := dgX1_step_2.2.2.2.2.2.2.2.2.2.2.1
theorem dX1_step_82 : decode cX1_step 82 = .ok (.getfield 35, 3) := dgX1_step_2.2.2.2.2.2.2.2.2.2.2.2.1
theorem dX1_step_85 : decode cX1_step 85 = .ok (.invokevirtual 104, 3) := dgX1_step_2.2.2.2.2.2.2.2.2.2.2.2.2.1
theorem dX1_step_88 : decode cX1_step 88 = .ok (.putfield 55, 3) := dgX1_step_2.2.2.2.2.2.2.2.2.2.2.2.2.2.1
theorem dX1_step_91 : decode cX1_step 91 = .ok (.aload_n 0, 1) := dgX1_step_2.2.2.2.2.2.2.2.2.2.2.2.2.2.2.1
theorem dX1_step_92 : decode cX1_step 92 = .ok (.aload_n 0, 1) := dgX1_step_2.2.2.2.2.2.2.2.2.2.2.2.2.2.2.2
theorem dgX1_step_3 : decode cX1_step 93 = .ok (.getfield 55, 3) ∧ decode cX1_step 96 = .ok (.ifCond .ne 10, 3) ∧ decode cX1_step 99 = .ok (.aload_n 0, 1) ∧ decode cX1_step 100 = .ok (.getfield 35, 3) ∧ decode cX1_step 103 = .ok (.goto 9, 3) ∧ decode cX1_step 106 = .ok (.aload_n 0, 1) ∧ decode cX1_step 107 = .ok (.getfield 35, 3) ∧ decode cX1_step 110 = .ok (.iconst 1, 1) ∧ decode cX1_step 111 = .ok (.iadd, 1) ∧ decode cX1_step 112 = .ok (.putfield 75, 3) ∧ decode cX1_step 115 = .ok (.aload_n 0, 1) ∧ decode cX1_step 116 = .ok (.getfield 55, 3) ∧ decode cX1_step 119 = .ok (.iconst 1, 1) ∧ decode cX1_step 120 = .ok (.if_icmp .eq 11, 3) ∧ decode cX1_step 123 = .ok (.aload_n 0, 1) ∧ decode cX1_step 124 = .ok (.getfield 55, 3) := by decide +kernel
theorem dX1_step_93 : decode cX1_step 93 = .ok (.getfield 55, 3) := dgX1_step_3.1
theorem dX1_step_96 : decode cX1_step 96 = .ok (.ifCond .ne 10, 3) := dgX1_step_3.2.1
theorem dX1_step_99 : decode cX1_step 99 = .ok (.aload_n 0, 1) := dgX1_step_3.2.2.1
theorem dX1_step_100 : decode cX1_step 100 = .ok (.getfield 35, 3) := dgX1_step_3.2.2.2.1
theorem dX1_step_103 : decode cX1_step 103 = .ok (.goto 9, 3) := dgX1_step_3.2.2.2.2.1
theorem dX1_step_106 : decode cX1_step 106 = .ok (.aload_n 0, 1) := dgX1_step_3.2.2.2.2.2.1
theorem dX1_step_107 : decode cX1_step 107 = .ok (.getfield 35, 3) := dgX1_step_3.2.2.2.2.2.2.1
theorem dX1_step_110 : decode cX1_step 110 = .ok (.iconst 1, 1) := dgX1_step_3.2.2.2.2.2.2.2.1
theorem dX1_step_111 : decode cX1_step 111 = .ok (.iadd, 1) := dgX1_step_3.2.2.2.2.2.2.2.2.1
theorem dX1_step_112 : decode cX1_step 112 = .ok (.putfield 75, 3) := dgX1_step_3.2.2.2.2.2.2.2.2.2.1
theorem dX1_step_115 : decode cX1_step 115 = .ok (.aload_n 0, 1) := dgX1_step_3.2.2.2.2.2.2.2.2.2.2.1
theorem dX1_step_116 : decode cX1_step 116 = .ok (.getfield 55, 3) := dgX1_step_3.2.2.2.2.2.2.2.2.2.2.2.1
theorem dX1_step_119 : decode cX1_step 119 = .ok (.iconst 1, 1) := dgX1_step_3.2.2.2.2.2.2.2.2.2.2.2.2.1
theorem dX1_step_120 : decode cX1_step 120 = .ok (.if_icmp .eq 11, 3) := dgX1_step_3.2.2.2.2.2.2.2.2.2.2.2.2.2.1
theorem dX1_step_123 : decode cX1_step 123 = .ok (.aload_n 0, 1) := dgX1_step_3.2.2.2.2.2.2.2.2.2.2.2.2.2.2.1
theorem dX1_step_124 : decode cX1_step 124 = .ok (.getfield 55, 3) := dgX1_step_3.2.2.2.2.2.2.2.2.2.2.2.2.2.2.2
theorem dgX1_step_4 : decode cX1_step 127 = .ok (.iconst 2, 1) ∧ decode cX1_step 128 = .ok (.if_icmp .ne 45, 3) ∧ decode cX1_step 131 = .ok (.aload_n 0, 1) ∧ decode cX1_step 132 = .ok (.getfield 75, 3) ∧ decode cX1_step 135 = .ok (.aload_n 0, 1) ∧ decode cX1_step 136 = .ok (.getfield 24, 3) ∧ decode cX1_step 139 = .ok (.getfield 101, 3) ∧ decode cX1_step 142 = .ok (.if_icmp .ge 31, 3) ∧ decode cX1_step 145 = .ok (.aload_n 0, 1) ∧ decode cX1_step 146 = .ok (.aload_n 0, 1) ∧ decode cX1_step 147 = .ok (.getfield 75, 3) ∧ decode cX1_step 150 = .ok (.invokevirtual 104, 3) ∧ decode cX1_step 153 = .ok (.aload_n 0, 1) ∧ decode cX1_step 154 = .ok (.getfield 55, 3) ∧ decode cX1_step 157 = .ok (.if_icmp .ne 16, 3) ∧ decode cX1_step 160 = .ok (.aload_n 0, 1) := by decide +kernel
theorem dX1_step_127 : decode cX1_step 127 = .ok (.iconst 2, 1) := dgX1_step_4.1
theorem dX1_step_128 : decode cX1_step 128 = .ok (.if_icmp .ne 45, 3) := dgX1_step_4.2.1
theorem dX1_step_131 : decode cX1_step 131 = .ok (.aload_n 0, 1) := dgX1_step_4.2.2.1
theorem dX1_step_132 : decode cX1_step 132 = .ok (.getfield 75, 3) := dgX1_step_4.2.2.2.1
theorem dX1_step_135 : decode cX1_step 135 = .ok (.aload_n 0, 1) := dgX1_step_4.2.2.2.2.1
theorem dX1_step_136 : decode cX1_step 136 = .ok (.getfield 24, 3) := dgX1_step_4.2.2.2.2.2.1
theorem dX1_step_139 : decode cX1_step 139 = .ok (.getfield 101, 3) := dgX1_step_4.2.2.2.2.2.2.1
theorem dX1_step_142 : decode cX1_step 142 = .ok (.if_icmp .ge 31, 3) := dgX1_step_4.2.2.2.2.2.2.2.1
theorem dX1_step_145 : decode cX1_step 145 = .ok (.aload_n 0, 1) := dgX1_step_4.2.2.2.2.2.2.2.2.1
theorem dX1_step_146 : decode cX1_step 146 = .ok (.aload_n 0, 1) := dgX1_step_4.2.2.2.2.2.2.2.2.2.1
theorem dX1_step_147 : decode cX1_step 147 = .ok (.getfield 75, 3) := dgX1_step_4.2.2.2.2.2.2.2.2.2.2.1
theorem dX1_step_150 : decode cX1_step 150 = .ok (.invokevirtual 104, 3) := dgX1_step_4.2.2.2.2.2.2.2.2.2.2.2.1
theorem dX1_step_153 : decode cX1_step 153 = .ok (.aload_n 0, 1) := dgX1_step_4.2.2.2.2.2.2.2.2.2.2.2.2.1
theorem dX1_step_154 : decode cX1_step 154 = .ok (.getfield 55, 3) := dgX1_step_4.2.2.2.2.2.2.2.2.2.2.2.2.2.1
theorem dX1_step_157 : decode cX1_step 157 = .ok (.if_icmp .ne 16, 3) := dgX1_step_4.2.2.2.2.2.2.2.2.2.2.2.2.2.2.1
theorem dX1_step_160 : decode cX1_step 160 = .ok (.aload_n 0, 1) := dgX1_step_4.2.2.2.2.2.2.2.2.2.2.2.2.2.2.2
theorem dgX1_step_5 : decode cX1_step 161 = .ok (.dup, 1) ∧ decode cX1_step 162 = .ok (.getfield 75, 3) ∧ decode cX1_step 165 = .ok (.iconst 1, 1) ∧ decode cX1_step 166 = .ok (.iadd, 1) ∧ decode cX1_step 167 = .ok (.putfield 75, 3) ∧ decode cX1_step 170 = .ok (.goto (-39), 3) ∧ decode cX1_step 173 = .ok (.aload_n 0, 1) ∧ decode cX1_step 174 = .ok (.iload_n 2, 1) ∧ decode cX1_step 175 = .ok (.ifCond .eq 15, 3) ∧ decode cX1_step 178 = .ok (.aload_n 0, 1) ∧ decode cX1_step 179 = .ok (.getfield 35, 3) ∧ decode cX1_step 182 = .ok (.iload_n 1, 1) ∧ decode cX1_step 183 = .ok (.if_icmp .ne 7, 3) ∧ decode cX1_step 186 = .ok (.iconst 1, 1) ∧ decode cX1_step 187 = .ok (.goto 4, 3) ∧ decode cX1_step 190 = .ok (.iconst 0, 1) := by decide +kernel
theorem dX1_step_161 : decode cX1_step 161 = .ok (.dup, 1) := dgX1_step_5.1
theorem dX1_step_162 : decode cX1_step 162 = .ok (.getfield 75, 3) := dgX1_step_5.2.1
theorem dX1_step_165 : decode cX1_step 165 = .ok (.iconst 1, 1) := dgX1_step_5.2.2.1
theorem dX1_step_166 : decode cX1_step 166 = .ok (.iadd, 1) := dgX1_step_5.2.2.2.1
theorem dX1_step_167 : decode cX1_step 167 = .ok (.putfield 75, 3) := dgX1_step_5.2.2.2.2.1
theorem dX1_step_170 : decode cX1_step 170 = .ok (.goto (-39), 3) := dgX1_step_5.2.2.2.2.2.1
theorem dX1_step_173 : decode cX1_step 173 = .ok (.aload_n 0, 1) := dgX1_step_5.2.2.2.2.2.2.1
theorem dX1_step_174 : decode cX1_step 174 = .ok (.iload_n 2, 1) := dgX1_step_5.2.2.2.2.2.2.2.1
theorem dX1_step_175 : decode cX1_step 175 = .ok (.ifCond .eq 15, 3) := dgX1_step_5.2.2.2.2.2.2.2.2.1
theorem dX1_step_178 : decode cX1_step 178 = .ok (.aload_n 0, 1) := dgX1_step_5.2.2.2.2.2.2.2.2.2.1
theorem dX1_step_179 : decode cX1_step 179 = .ok (.getfield 35, 3) := dgX1_step_5.2.2.2.2.2.2.2.2.2.2.1
theorem dX1_step_182 : decode cX1_step 182 = .ok (.iload_n 1, 1) := dgX1_step_5.2.2.2.2.2.2.2.2.2.2.2.1
theorem dX1_step_183 : decode cX1_step 183 = .ok (.if_icmp .ne 7, 3) := dgX1_step_5.2.2.2.2.2.2.2.2.2.2.2.2.1
theorem dX1_step_186 : decode cX1_step 186 = .ok (.iconst 1, 1) := dgX1_step_5.2.2.2.2.2.2.2.2.2.2.2.2.2.1
theorem dX1_step_187 : decode cX1_step 187 = .ok (.goto 4, 3) := dgX1_step_5.2.2.2.2.2.2.2.2.2.2.2.2.2.2.1
theorem dX1_step_190 : decode cX1_step 190 = .ok (.iconst 0, 1) := dgX1_step_5.2.2.2.2.2.2.2.2.2.2.2.2.2.2.2
theorem dgX1_step_6 : decode cX1_step 191 = .ok (.putfield 108, 3) ∧ decode cX1_step 194 = .ok (.return_, 1) := by decide +kernel
theorem dX1_step_191 : decode cX1_step 191 = .ok (.putfield 108, 3) := dgX1_step_6.1
theorem dX1_step_194 : decode cX1_step 194 = .ok (.return_, 1) := dgX1_step_6.2
abbrev pX1_step : List Nat := [0, 21, 25, 26, 35, 79, 106, 112, 131, 173, 190, 191]
def bX1_step_0 (cal : ab_F) : ab_K := o_aload 0 <| o_getf 0 9 <| o_istore 1 <| o_aload 0 <| o_getf 0 7 <| o_push (.int 1) <| o_cmp (fun x y => decide (x = y)) 1 <| o_aload 0 <| o_getf 0 7 <| o_push (.int 2) <| o_cmp (fun x y => decide (¬ x = y)) 2 <| o_goto 1
def bX1_step_1 (cal : ab_F) : ab_K := o_push (.int 1) <| o_goto 3
def bX1_step_2 (cal : ab_F) : ab_K := o_push (.int 0) <| o_goto 3
def bX1_step_3 (cal : ab_F) : ab_K := o_istore 2 <| o_aload 0 <| o_aload 0 <| o_getf 0 9 <| o_putI 0 8 <| o_goto 4
def bX1_step_4 (cal : ab_F) : ab_K := o_aload 0 <| o_getf 0 8 <| o_aload 0 <| o_getf 0 1 <| o_getf 4 1 <| o_cmp (fun x y => decide (y ≤ x)) 5 <| o_aload 0 <| o_getf 0 1 <| o_getf 4 0 <| o_aload 0 <| o_getf 0 8 <| o_iald 0 <| o_push (.int 32) <| o_cmp (fun x y => decide (¬ x = y)) 5 <| o_aload 0 <| o_dup <| o_getf 0 8 <| o_push (.int 1) <| o_bin (fun x y => x + y) <| o_putI 0 8 <| o_goto 4
def bX1_step_5 (cal : ab_F) : ab_K := o_aload 0 <| o_aload 0 <| o_aload 0 <| o_getf 0 8 <| o_callV cal 10 1 0 <| o_putI 0 7 <| o_aload 0 <| o_aload 0 <| o_getf 0 7 <| o_if (fun x => decide (¬ x = 0)) 6 <| o_aload 0 <| o_getf 0 8 <| o_goto 7
def bX1_step_6 (cal : ab_F) : ab_K := o_aload 0 <| o_getf 0 8 <| o_push (.int 1) <| o_bin (fun x y => x + y) <| o_goto 7
def bX1_step_7 (cal : ab_F) : ab_K := o_putI 0 9 <| o_aload 0 <| o_getf 0 7 <| o_push (.int 1) <| o_cmp (fun x y => decide (x = y)) 8 <| o_aload 0 <| o_getf 0 7 <| o_push (.int 2) <| o_cmp (fun x y => decide (¬ x = y)) 9 <| o_goto 8
def bX1_step_8 (cal : ab_F) : ab_K := o_aload 0 <| o_getf 0 9 <| o_aload 0 <| o_getf 0 1 <| o_getf 4 1 <| o_cmp (fun x y => decide (y ≤ x)) 9 <| o_aload 0 <| o_aload 0 <| o_getf 0 9 <| o_callV cal 10 1 0 <| o_aload 0 <| o_getf 0 7 <| o_cmp (fun x y => decide (¬ x = y)) 9 <| o_aload 0 <| o_dup <| o_getf 0 9 <| o_push (.int 1) <| o_bin (fun x y => x + y) <| o_putI 0 9 <| o_goto 8
def bX1_step_9 (cal : ab_F) : ab_K := o_aload 0 <| o_iload 2 <| o_if (fun x => decide (x = 0)) 10 <| o_aload 0 <| o_getf 0 8 <| o_iload 1 <| o_cmp (fun x y => decide (¬ x = y)) 10 <| o_push (.int 1) <| o_goto 11
def bX1_step_10 (cal : ab_F) : ab_K := o_push (.int 0) <| o_goto 11
def bX1_step_11 (cal : ab_F) : ab_K := o_putZ 0 10 <| o_ret none
def bX1_step (cal : ab_F) : List ab_K := [bX1_step_0 cal, bX1_step_1 cal, bX1_step_2 cal, bX1_step_3 cal, bX1_step_4 cal, bX1_step_5 cal, bX1_step_6 cal, bX1_step_7 cal, bX1_step_8 cal, bX1_step_9 cal, bX1_step_10 cal, bX1_step_11 cal]
set_option maxRecDepth 100000 in
theorem sX1_step_0 {G : ab_G} {xs : List Int32} {d : Nat} {cal : ab_F} (hcs : ab_CS G (ab_Z G xs) ab_Mf cal d) : ab_Sd G (ab_Z G xs) (d + 1) (ab_mY mX1_step pX1_step) 0 (bX1_step_0 cal) :=
  sn_aload_n dX1_step_0 rfl <| sn_getf dX1_step_1 rfl hinX1 (by decide) w_206 <| sn_istore_n dX1_step_4 rfl (by decide) <| sn_aload_n dX1_step_5 rfl <| sn_getf dX1_step_6 rfl hinX1 (by decide) w_204 <| sn_iconst dX1_step_9 rfl <| sn_cmp_eq (tg := 21) dX1_step_10 rfl rfl <| sn_aload_n dX1_step_13 rfl <| sn_getf dX1_step_14 rfl hinX1 (by decide) w_204 <| sn_iconst dX1_step_17 rfl <| sn_cmp_ne (tg := 25) dX1_step_18 rfl rfl <| sn_next rfl
set_option maxRecDepth 100000 in
theorem sX1_step_1 {G : ab_G} {xs : List Int32} {d : Nat} {cal : ab_F} (hcs : ab_CS G (ab_Z G xs) ab_Mf cal d) : ab_Sd G (ab_Z G xs) (d + 1) (ab_mY mX1_step pX1_step) 21 (bX1_step_1 cal) :=
  sn_iconst dX1_step_21 rfl <| sn_goto (tg := 26) dX1_step_22 rfl rfl
set_option maxRecDepth 100000 in
theorem sX1_step_2 {G : ab_G} {xs : List Int32} {d : Nat} {cal : ab_F} (hcs : ab_CS G (ab_Z G xs) ab_Mf cal d) : ab_Sd G (ab_Z G xs) (d + 1) (ab_mY mX1_step pX1_step) 25 (bX1_step_2 cal) :=
  sn_iconst dX1_step_25 rfl <| sn_next rfl
set_option maxRecDepth 100000 in
theorem sX1_step_3 {G : ab_G} {xs : List Int32} {d : Nat} {cal : ab_F} (hcs : ab_CS G (ab_Z G xs) ab_Mf cal d) : ab_Sd G (ab_Z G xs) (d + 1) (ab_mY mX1_step pX1_step) 26 (bX1_step_3 cal) :=
  sn_istore_n dX1_step_26 rfl (by decide) <| sn_aload_n dX1_step_27 rfl <| sn_aload_n dX1_step_28 rfl <| sn_getf dX1_step_29 rfl hinX1 (by decide) w_206 <| sn_putI tyX1 tyX1_ok nmX1 dX1_step_32 rfl hinX1 (by decide) w_205 (Or.inl rfl) (tyX1_ok 8 (by decide)) <| sn_next rfl
set_option maxRecDepth 100000 in
theorem sX1_step_4 {G : ab_G} {xs : List Int32} {d : Nat} {cal : ab_F} (hcs : ab_CS G (ab_Z G xs) ab_Mf cal d) : ab_Sd G (ab_Z G xs) (d + 1) (ab_mY mX1_step pX1_step) 35 (bX1_step_4 cal) :=
  sn_aload_n dX1_step_35 rfl <| sn_getf dX1_step_36 rfl hinX1 (by decide) w_205 <| sn_aload_n dX1_step_39 rfl <| sn_getf dX1_step_40 rfl hinX1 (by decide) w_198 <| sn_getf dX1_step_43 rfl hinX5 (by decide) w_182 <| sn_cmp_ge (tg := 79) dX1_step_46 rfl rfl <| sn_aload_n dX1_step_49 rfl <| sn_getf dX1_step_50 rfl hinX1 (by decide) w_198 <| sn_getf dX1_step_53 rfl hinX5 (by decide) w_180 <| sn_aload_n dX1_step_56 rfl <| sn_getf dX1_step_57 rfl hinX1 (by decide) w_205 <| sn_iald dX1_step_60 rfl <| sn_bipush dX1_step_61 rfl <| sn_cmp_ne (tg := 79) dX1_step_63 rfl rfl <| sn_aload_n dX1_step_66 rfl <| sn_dup dX1_step_67 <| sn_getf dX1_step_68 rfl hinX1 (by decide) w_205 <| sn_iconst dX1_step_71 rfl <| sn_iadd dX1_step_72 <| sn_putI tyX1 tyX1_ok nmX1 dX1_step_73 rfl hinX1 (by decide) w_205 (Or.inl rfl) (tyX1_ok 8 (by decide)) <| sn_goto (tg := 35) dX1_step_76 rfl rfl
set_option maxRecDepth 100000 in
theorem sX1_step_5 {G : ab_G} {xs : List Int32} {d : Nat} {cal : ab_F} (hcs : ab_CS G (ab_Z G xs) ab_Mf cal d) : ab_Sd G (ab_Z G xs) (d + 1) (ab_mY mX1_step pX1_step) 79 (bX1_step_5 cal) :=
  sn_aload_n dX1_step_79 rfl <| sn_aload_n dX1_step_80 rfl <| sn_aload_n dX1_step_81 rfl <| sn_getf dX1_step_82 rfl hinX1 (by decide) w_205 <| sq_callV mt_10 hcs dX1_step_85 rfl w_681 w_683 w_4 w_60 w_684 hy_10 hm_10 <| sn_putI tyX1 tyX1_ok nmX1 dX1_step_88 rfl hinX1 (by decide) w_204 (Or.inl rfl) (tyX1_ok 7 (by decide)) <| sn_aload_n dX1_step_91 rfl <| sn_aload_n dX1_step_92 rfl <| sn_getf dX1_step_93 rfl hinX1 (by decide) w_204 <| sn_if_ne (tg := 106) dX1_step_96 rfl rfl <| sn_aload_n dX1_step_99 rfl <| sn_getf dX1_step_100 rfl hinX1 (by decide) w_205 <| sn_goto (tg := 112) dX1_step_103 rfl rfl
set_option maxRecDepth 100000 in
theorem sX1_step_6 {G : ab_G} {xs : List Int32} {d : Nat} {cal : ab_F} (hcs : ab_CS G (ab_Z G xs) ab_Mf cal d) : ab_Sd G (ab_Z G xs) (d + 1) (ab_mY mX1_step pX1_step) 106 (bX1_step_6 cal) :=
  sn_aload_n dX1_step_106 rfl <| sn_getf dX1_step_107 rfl hinX1 (by decide) w_205 <| sn_iconst dX1_step_110 rfl <| sn_iadd dX1_step_111 <| sn_next rfl
set_option maxRecDepth 100000 in
theorem sX1_step_7 {G : ab_G} {xs : List Int32} {d : Nat} {cal : ab_F} (hcs : ab_CS G (ab_Z G xs) ab_Mf cal d) : ab_Sd G (ab_Z G xs) (d + 1) (ab_mY mX1_step pX1_step) 112 (bX1_step_7 cal) :=
  sn_putI tyX1 tyX1_ok nmX1 dX1_step_112 rfl hinX1 (by decide) w_206 (Or.inl rfl) (tyX1_ok 9 (by decide)) <| sn_aload_n dX1_step_115 rfl <| sn_getf dX1_step_116 rfl hinX1 (by decide) w_204 <| sn_iconst dX1_step_119 rfl <| sn_cmp_eq (tg := 131) dX1_step_120 rfl rfl <| sn_aload_n dX1_step_123 rfl <| sn_getf dX1_step_124 rfl hinX1 (by decide) w_204 <| sn_iconst dX1_step_127 rfl <| sn_cmp_ne (tg := 173) dX1_step_128 rfl rfl <| sn_next rfl
set_option maxRecDepth 100000 in
theorem sX1_step_8 {G : ab_G} {xs : List Int32} {d : Nat} {cal : ab_F} (hcs : ab_CS G (ab_Z G xs) ab_Mf cal d) : ab_Sd G (ab_Z G xs) (d + 1) (ab_mY mX1_step pX1_step) 131 (bX1_step_8 cal) :=
  sn_aload_n dX1_step_131 rfl <| sn_getf dX1_step_132 rfl hinX1 (by decide) w_206 <| sn_aload_n dX1_step_135 rfl <| sn_getf dX1_step_136 rfl hinX1 (by decide) w_198 <| sn_getf dX1_step_139 rfl hinX5 (by decide) w_182 <| sn_cmp_ge (tg := 173) dX1_step_142 rfl rfl <| sn_aload_n dX1_step_145 rfl <| sn_aload_n dX1_step_146 rfl <| sn_getf dX1_step_147 rfl hinX1 (by decide) w_206 <| sq_callV mt_10 hcs dX1_step_150 rfl w_681 w_683 w_4 w_60 w_684 hy_10 hm_10 <| sn_aload_n dX1_step_153 rfl <| sn_getf dX1_step_154 rfl hinX1 (by decide) w_204 <| sn_cmp_ne (tg := 173) dX1_step_157 rfl rfl <| sn_aload_n dX1_step_160 rfl <| sn_dup dX1_step_161 <| sn_getf dX1_step_162 rfl hinX1 (by decide) w_206 <| sn_iconst dX1_step_165 rfl <| sn_iadd dX1_step_166 <| sn_putI tyX1 tyX1_ok nmX1 dX1_step_167 rfl hinX1 (by decide) w_206 (Or.inl rfl) (tyX1_ok 9 (by decide)) <| sn_goto (tg := 131) dX1_step_170 rfl rfl
set_option maxRecDepth 100000 in
theorem sX1_step_9 {G : ab_G} {xs : List Int32} {d : Nat} {cal : ab_F} (hcs : ab_CS G (ab_Z G xs) ab_Mf cal d) : ab_Sd G (ab_Z G xs) (d + 1) (ab_mY mX1_step pX1_step) 173 (bX1_step_9 cal) :=
  sn_aload_n dX1_step_173 rfl <| sn_iload_n dX1_step_174 rfl <| sn_if_eq (tg := 190) dX1_step_175 rfl rfl <| sn_aload_n dX1_step_178 rfl <| sn_getf dX1_step_179 rfl hinX1 (by decide) w_205 <| sn_iload_n dX1_step_182 rfl <| sn_cmp_ne (tg := 190) dX1_step_183 rfl rfl <| sn_iconst dX1_step_186 rfl <| sn_goto (tg := 191) dX1_step_187 rfl rfl
set_option maxRecDepth 100000 in
theorem sX1_step_10 {G : ab_G} {xs : List Int32} {d : Nat} {cal : ab_F} (hcs : ab_CS G (ab_Z G xs) ab_Mf cal d) : ab_Sd G (ab_Z G xs) (d + 1) (ab_mY mX1_step pX1_step) 190 (bX1_step_10 cal) :=
  sn_iconst dX1_step_190 rfl <| sn_next rfl
set_option maxRecDepth 100000 in
theorem sX1_step_11 {G : ab_G} {xs : List Int32} {d : Nat} {cal : ab_F} (hcs : ab_CS G (ab_Z G xs) ab_Mf cal d) : ab_Sd G (ab_Z G xs) (d + 1) (ab_mY mX1_step pX1_step) 191 (bX1_step_11 cal) :=
  sn_putZ tyX1 tyX1_ok nmX1 dX1_step_191 rfl hinX1 (by decide) w_207 (Or.inl rfl) (tyX1_ok 10 (by decide)) <| sn_ret dX1_step_194 ab_ri_void
theorem sX1_step {G : ab_G} {xs : List Int32} {d : Nat} {cal : ab_F} (hcs : ab_CS G (ab_Z G xs) ab_Mf cal d) : ab_BS G (ab_Z G xs) (d + 1) (ab_mY mX1_step pX1_step) pX1_step (bX1_step cal) := ⟨sX1_step_0 hcs, sX1_step_1 hcs, sX1_step_2 hcs, sX1_step_3 hcs, sX1_step_4 hcs, sX1_step_5 hcs, sX1_step_6 hcs, sX1_step_7 hcs, sX1_step_8 hcs, sX1_step_9 hcs, sX1_step_10 hcs, sX1_step_11 hcs, trivial⟩
theorem dgX1_sortAt_0 : decode cX1_sortAt 0 = .ok (.iload_n 1, 1) ∧ decode cX1_sortAt 1 = .ok (.aload_n 0, 1) ∧ decode cX1_sortAt 2 = .ok (.getfield 24, 3) ∧ decode cX1_sortAt 5 = .ok (.getfield 101, 3) ∧ decode cX1_sortAt 8 = .ok (.if_icmp .lt 5, 3) ∧ decode cX1_sortAt 11 = .ok (.iconst 0, 1) ∧ decode cX1_sortAt 12 = .ok (.ireturn, 1) ∧ decode cX1_sortAt 13 = .ok (.aload_n 0, 1) ∧ decode cX1_sortAt 14 = .ok (.getfield 24, 3) ∧ decode cX1_sortAt 17 = .ok (.getfield 92, 3) ∧ decode cX1_sortAt 20 = .ok (.iload_n 1, 1) ∧ decode cX1_sortAt 21 = .ok (.iaload, 1) ∧ decode cX1_sortAt 22 = .ok (.istore_n 2, 1) ∧ decode cX1_sortAt 23 = .ok (.iload_n 2, 1) ∧ decode cX1_sortAt 24 = .ok (.bipush 97, 2) ∧ decode cX1_sortAt 26 = .ok (.if_icmp .lt 11, 3) := by decide +kernel
theorem dX1_sortAt_0 : decode cX1_sortAt 0 = .ok (.iload_n 1, 1) := dgX1_sortAt_0.1
theorem dX1_sortAt_1 : decode cX1_sortAt 1 = .ok (.aload_n 0, 1) := dgX1_sortAt_0.2.1
theorem dX1_sortAt_2 : decode cX1_sortAt 2 = .ok (.getfield 24, 3) := dgX1_sortAt_0.2.2.1
theorem dX1_sortAt_5 : decode cX1_sortAt 5 = .ok (.getfield 101, 3) := dgX1_sortAt_0.2.2.2.1
theorem dX1_sortAt_8 : decode cX1_sortAt 8 = .ok (.if_icmp .lt 5, 3) := dgX1_sortAt_0.2.2.2.2.1
theorem dX1_sortAt_11 : decode cX1_sortAt 11 = .ok (.iconst 0, 1) := dgX1_sortAt_0.2.2.2.2.2.1
theorem dX1_sortAt_12 : decode cX1_sortAt 12 = .ok (.ireturn, 1) := dgX1_sortAt_0.2.2.2.2.2.2.1
theorem dX1_sortAt_13 : decode cX1_sortAt 13 = .ok (.aload_n 0, 1) := dgX1_sortAt_0.2.2.2.2.2.2.2.1
theorem dX1_sortAt_14 : decode cX1_sortAt 14 = .ok (.getfield 24, 3) := dgX1_sortAt_0.2.2.2.2.2.2.2.2.1
theorem dX1_sortAt_17 : decode cX1_sortAt 17 = .ok (.getfield 92, 3) := dgX1_sortAt_0.2.2.2.2.2.2.2.2.2.1
theorem dX1_sortAt_20 : decode cX1_sortAt 20 = .ok (.iload_n 1, 1) := dgX1_sortAt_0.2.2.2.2.2.2.2.2.2.2.1
theorem dX1_sortAt_21 : decode cX1_sortAt 21 = .ok (.iaload, 1) := dgX1_sortAt_0.2.2.2.2.2.2.2.2.2.2.2.1
theorem dX1_sortAt_22 : decode cX1_sortAt 22 = .ok (.istore_n 2, 1) := dgX1_sortAt_0.2.2.2.2.2.2.2.2.2.2.2.2.1
theorem dX1_sortAt_23 : decode cX1_sortAt 23 = .ok (.iload_n 2, 1) := dgX1_sortAt_0.2.2.2.2.2.2.2.2.2.2.2.2.2.1
theorem dX1_sortAt_24 : decode cX1_sortAt 24 = .ok (.bipush 97, 2) := dgX1_sortAt_0.2.2.2.2.2.2.2.2.2.2.2.2.2.2.1
theorem dX1_sortAt_26 : decode cX1_sortAt 26 = .ok (.if_icmp .lt 11, 3) := dgX1_sortAt_0.2.2.2.2.2.2.2.2.2.2.2.2.2.2.2
theorem dgX1_sortAt_1 : decode cX1_sortAt 29 = .ok (.iload_n 2, 1) ∧ decode cX1_sortAt 30 = .ok (.bipush 122, 2) ∧ decode cX1_sortAt 32 = .ok (.if_icmp .gt 5, 3) ∧ decode cX1_sortAt 35 = .ok (.iconst 1, 1) ∧ decode cX1_sortAt 36 = .ok (.ireturn, 1) ∧ decode cX1_sortAt 37 = .ok (.iload_n 2, 1) ∧ decode cX1_sortAt 38 = .ok (.bipush 48, 2) ∧ decode cX1_sortAt 40 = .ok (.if_icmp .lt 13, 3) ∧ decode cX1_sortAt 43 = .ok (.iload_n 2, 1) ∧ decode cX1_sortAt 44 = .ok (.bipush 57, 2) ∧ decode cX1_sortAt 46 = .ok (.if_icmp .gt 7, 3) ∧ decode cX1_sortAt 49 = .ok (.iconst 2, 1) ∧ decode cX1_sortAt 50 = .ok (.goto 4, 3) ∧ decode cX1_sortAt 53 = .ok (.iconst 3, 1) ∧ decode cX1_sortAt 54 = .ok (.ireturn, 1) := by decide +kernel
theorem dX1_sortAt_29 : decode cX1_sortAt 29 = .ok (.iload_n 2, 1) := dgX1_sortAt_1.1
theorem dX1_sortAt_30 : decode cX1_sortAt 30 = .ok (.bipush 122, 2) := dgX1_sortAt_1.2.1
theorem dX1_sortAt_32 : decode cX1_sortAt 32 = .ok (.if_icmp .gt 5, 3) := dgX1_sortAt_1.2.2.1
theorem dX1_sortAt_35 : decode cX1_sortAt 35 = .ok (.iconst 1, 1) := dgX1_sortAt_1.2.2.2.1
theorem dX1_sortAt_36 : decode cX1_sortAt 36 = .ok (.ireturn, 1) := dgX1_sortAt_1.2.2.2.2.1
theorem dX1_sortAt_37 : decode cX1_sortAt 37 = .ok (.iload_n 2, 1) := dgX1_sortAt_1.2.2.2.2.2.1
theorem dX1_sortAt_38 : decode cX1_sortAt 38 = .ok (.bipush 48, 2) := dgX1_sortAt_1.2.2.2.2.2.2.1
theorem dX1_sortAt_40 : decode cX1_sortAt 40 = .ok (.if_icmp .lt 13, 3) := dgX1_sortAt_1.2.2.2.2.2.2.2.1
theorem dX1_sortAt_43 : decode cX1_sortAt 43 = .ok (.iload_n 2, 1) := dgX1_sortAt_1.2.2.2.2.2.2.2.2.1
theorem dX1_sortAt_44 : decode cX1_sortAt 44 = .ok (.bipush 57, 2) := dgX1_sortAt_1.2.2.2.2.2.2.2.2.2.1
theorem dX1_sortAt_46 : decode cX1_sortAt 46 = .ok (.if_icmp .gt 7, 3) := dgX1_sortAt_1.2.2.2.2.2.2.2.2.2.2.1
theorem dX1_sortAt_49 : decode cX1_sortAt 49 = .ok (.iconst 2, 1) := dgX1_sortAt_1.2.2.2.2.2.2.2.2.2.2.2.1
theorem dX1_sortAt_50 : decode cX1_sortAt 50 = .ok (.goto 4, 3) := dgX1_sortAt_1.2.2.2.2.2.2.2.2.2.2.2.2.1
theorem dX1_sortAt_53 : decode cX1_sortAt 53 = .ok (.iconst 3, 1) := dgX1_sortAt_1.2.2.2.2.2.2.2.2.2.2.2.2.2.1
theorem dX1_sortAt_54 : decode cX1_sortAt 54 = .ok (.ireturn, 1) := dgX1_sortAt_1.2.2.2.2.2.2.2.2.2.2.2.2.2.2
abbrev pX1_sortAt : List Nat := [0, 13, 37, 53, 54]
def bX1_sortAt_0 (cal : ab_F) : ab_K := o_iload 1 <| o_aload 0 <| o_getf 0 1 <| o_getf 4 1 <| o_cmp (fun x y => decide (x < y)) 1 <| o_push (.int 0) <| o_ret (some .int)
def bX1_sortAt_1 (cal : ab_F) : ab_K := o_aload 0 <| o_getf 0 1 <| o_getf 4 0 <| o_iload 1 <| o_iald 0 <| o_istore 2 <| o_iload 2 <| o_push (.int 97) <| o_cmp (fun x y => decide (x < y)) 2 <| o_iload 2 <| o_push (.int 122) <| o_cmp (fun x y => decide (y < x)) 2 <| o_push (.int 1) <| o_ret (some .int)
def bX1_sortAt_2 (cal : ab_F) : ab_K := o_iload 2 <| o_push (.int 48) <| o_cmp (fun x y => decide (x < y)) 3 <| o_iload 2 <| o_push (.int 57) <| o_cmp (fun x y => decide (y < x)) 3 <| o_push (.int 2) <| o_goto 4
def bX1_sortAt_3 (cal : ab_F) : ab_K := o_push (.int 3) <| o_goto 4
def bX1_sortAt_4 (cal : ab_F) : ab_K := o_ret (some .int)
def bX1_sortAt (cal : ab_F) : List ab_K := [bX1_sortAt_0 cal, bX1_sortAt_1 cal, bX1_sortAt_2 cal, bX1_sortAt_3 cal, bX1_sortAt_4 cal]
set_option maxRecDepth 100000 in
theorem sX1_sortAt_0 {G : ab_G} {xs : List Int32} {d : Nat} {cal : ab_F} (hcs : ab_CS G (ab_Z G xs) ab_Mf cal d) : ab_Sd G (ab_Z G xs) (d + 1) (ab_mY mX1_sortAt pX1_sortAt) 0 (bX1_sortAt_0 cal) :=
  sn_iload_n dX1_sortAt_0 rfl <| sn_aload_n dX1_sortAt_1 rfl <| sn_getf dX1_sortAt_2 rfl hinX1 (by decide) w_198 <| sn_getf dX1_sortAt_5 rfl hinX5 (by decide) w_182 <| sn_cmp_lt (tg := 13) dX1_sortAt_8 rfl rfl <| sn_iconst dX1_sortAt_11 rfl <| sn_ret dX1_sortAt_12 ab_ri_int
set_option maxRecDepth 100000 in
theorem sX1_sortAt_1 {G : ab_G} {xs : List Int32} {d : Nat} {cal : ab_F} (hcs : ab_CS G (ab_Z G xs) ab_Mf cal d) : ab_Sd G (ab_Z G xs) (d + 1) (ab_mY mX1_sortAt pX1_sortAt) 13 (bX1_sortAt_1 cal) :=
  sn_aload_n dX1_sortAt_13 rfl <| sn_getf dX1_sortAt_14 rfl hinX1 (by decide) w_198 <| sn_getf dX1_sortAt_17 rfl hinX5 (by decide) w_180 <| sn_iload_n dX1_sortAt_20 rfl <| sn_iald dX1_sortAt_21 rfl <| sn_istore_n dX1_sortAt_22 rfl (by decide) <| sn_iload_n dX1_sortAt_23 rfl <| sn_bipush dX1_sortAt_24 rfl <| sn_cmp_lt (tg := 37) dX1_sortAt_26 rfl rfl <| sn_iload_n dX1_sortAt_29 rfl <| sn_bipush dX1_sortAt_30 rfl <| sn_cmp_gt (tg := 37) dX1_sortAt_32 rfl rfl <| sn_iconst dX1_sortAt_35 rfl <| sn_ret dX1_sortAt_36 ab_ri_int
set_option maxRecDepth 100000 in
theorem sX1_sortAt_2 {G : ab_G} {xs : List Int32} {d : Nat} {cal : ab_F} (hcs : ab_CS G (ab_Z G xs) ab_Mf cal d) : ab_Sd G (ab_Z G xs) (d + 1) (ab_mY mX1_sortAt pX1_sortAt) 37 (bX1_sortAt_2 cal) :=
  sn_iload_n dX1_sortAt_37 rfl <| sn_bipush dX1_sortAt_38 rfl <| sn_cmp_lt (tg := 53) dX1_sortAt_40 rfl rfl <| sn_iload_n dX1_sortAt_43 rfl <| sn_bipush dX1_sortAt_44 rfl <| sn_cmp_gt (tg := 53) dX1_sortAt_46 rfl rfl <| sn_iconst dX1_sortAt_49 rfl <| sn_goto (tg := 54) dX1_sortAt_50 rfl rfl
set_option maxRecDepth 100000 in
theorem sX1_sortAt_3 {G : ab_G} {xs : List Int32} {d : Nat} {cal : ab_F} (hcs : ab_CS G (ab_Z G xs) ab_Mf cal d) : ab_Sd G (ab_Z G xs) (d + 1) (ab_mY mX1_sortAt pX1_sortAt) 53 (bX1_sortAt_3 cal) :=
  sn_iconst dX1_sortAt_53 rfl <| sn_next rfl
set_option maxRecDepth 100000 in
theorem sX1_sortAt_4 {G : ab_G} {xs : List Int32} {d : Nat} {cal : ab_F} (hcs : ab_CS G (ab_Z G xs) ab_Mf cal d) : ab_Sd G (ab_Z G xs) (d + 1) (ab_mY mX1_sortAt pX1_sortAt) 54 (bX1_sortAt_4 cal) :=
  sn_ret dX1_sortAt_54 ab_ri_int
theorem sX1_sortAt {G : ab_G} {xs : List Int32} {d : Nat} {cal : ab_F} (hcs : ab_CS G (ab_Z G xs) ab_Mf cal d) : ab_BS G (ab_Z G xs) (d + 1) (ab_mY mX1_sortAt pX1_sortAt) pX1_sortAt (bX1_sortAt cal) := ⟨sX1_sortAt_0 hcs, sX1_sortAt_1 hcs, sX1_sortAt_2 hcs, sX1_sortAt_3 hcs, sX1_sortAt_4 hcs, trivial⟩
theorem dgX1_signAtHand_0 : decode cX1_signAtHand 0 = .ok (.aload_n 0, 1) ∧ decode cX1_signAtHand 1 = .ok (.getfield 55, 3) ∧ decode cX1_signAtHand 4 = .ok (.iconst 3, 1) ∧ decode cX1_signAtHand 5 = .ok (.if_icmp .ne 32, 3) ∧ decode cX1_signAtHand 8 = .ok (.aload_n 0, 1) ∧ decode cX1_signAtHand 9 = .ok (.getfield 35, 3) ∧ decode cX1_signAtHand 12 = .ok (.aload_n 0, 1) ∧ decode cX1_signAtHand 13 = .ok (.getfield 24, 3) ∧ decode cX1_signAtHand 16 = .ok (.getfield 101, 3) ∧ decode cX1_signAtHand 19 = .ok (.if_icmp .ge 18, 3) ∧ decode cX1_signAtHand 22 = .ok (.aload_n 0, 1) ∧ decode cX1_signAtHand 23 = .ok (.getfield 24, 3) ∧ decode cX1_signAtHand 26 = .ok (.getfield 92, 3) ∧ decode cX1_signAtHand 29 = .ok (.aload_n 0, 1) ∧ decode cX1_signAtHand 30 = .ok (.getfield 35, 3) ∧ decode cX1_signAtHand 33 = .ok (.iaload, 1) := by decide +kernel
theorem dX1_signAtHand_0 : decode cX1_signAtHand 0 = .ok (.aload_n 0, 1) := dgX1_signAtHand_0.1
theorem dX1_signAtHand_1 : decode cX1_signAtHand 1 = .ok (.getfield 55, 3) := dgX1_signAtHand_0.2.1
theorem dX1_signAtHand_4 : decode cX1_signAtHand 4 = .ok (.iconst 3, 1) := dgX1_signAtHand_0.2.2.1
theorem dX1_signAtHand_5 : decode cX1_signAtHand 5 = .ok (.if_icmp .ne 32, 3) := dgX1_signAtHand_0.2.2.2.1
theorem dX1_signAtHand_8 : decode cX1_signAtHand 8 = .ok (.aload_n 0, 1) := dgX1_signAtHand_0.2.2.2.2.1
theorem dX1_signAtHand_9 : decode cX1_signAtHand 9 = .ok (.getfield 35, 3) := dgX1_signAtHand_0.2.2.2.2.2.1
theorem dX1_signAtHand_12 : decode cX1_signAtHand 12 = .ok (.aload_n 0, 1) := dgX1_signAtHand_0.2.2.2.2.2.2.1
theorem dX1_signAtHand_13 : decode cX1_signAtHand 13 = .ok (.getfield 24, 3) := dgX1_signAtHand_0.2.2.2.2.2.2.2.1
theorem dX1_signAtHand_16 : decode cX1_signAtHand 16 = .ok (.getfield 101, 3) := dgX1_signAtHand_0.2.2.2.2.2.2.2.2.1
theorem dX1_signAtHand_19 : decode cX1_signAtHand 19 = .ok (.if_icmp .ge 18, 3) := dgX1_signAtHand_0.2.2.2.2.2.2.2.2.2.1
theorem dX1_signAtHand_22 : decode cX1_signAtHand 22 = .ok (.aload_n 0, 1) := dgX1_signAtHand_0.2.2.2.2.2.2.2.2.2.2.1
theorem dX1_signAtHand_23 : decode cX1_signAtHand 23 = .ok (.getfield 24, 3) := dgX1_signAtHand_0.2.2.2.2.2.2.2.2.2.2.2.1
theorem dX1_signAtHand_26 : decode cX1_signAtHand 26 = .ok (.getfield 92, 3) := dgX1_signAtHand_0.2.2.2.2.2.2.2.2.2.2.2.2.1
theorem dX1_signAtHand_29 : decode cX1_signAtHand 29 = .ok (.aload_n 0, 1) := dgX1_signAtHand_0.2.2.2.2.2.2.2.2.2.2.2.2.2.1
theorem dX1_signAtHand_30 : decode cX1_signAtHand 30 = .ok (.getfield 35, 3) := dgX1_signAtHand_0.2.2.2.2.2.2.2.2.2.2.2.2.2.2.1
theorem dX1_signAtHand_33 : decode cX1_signAtHand 33 = .ok (.iaload, 1) := dgX1_signAtHand_0.2.2.2.2.2.2.2.2.2.2.2.2.2.2.2
theorem dgX1_signAtHand_1 : decode cX1_signAtHand 34 = .ok (.goto 4, 3) ∧ decode cX1_signAtHand 37 = .ok (.iconst 0, 1) ∧ decode cX1_signAtHand 38 = .ok (.ireturn, 1) := by decide +kernel
theorem dX1_signAtHand_34 : decode cX1_signAtHand 34 = .ok (.goto 4, 3) := dgX1_signAtHand_1.1
theorem dX1_signAtHand_37 : decode cX1_signAtHand 37 = .ok (.iconst 0, 1) := dgX1_signAtHand_1.2.1
theorem dX1_signAtHand_38 : decode cX1_signAtHand 38 = .ok (.ireturn, 1) := dgX1_signAtHand_1.2.2
abbrev pX1_signAtHand : List Nat := [0, 37, 38]
def bX1_signAtHand_0 (cal : ab_F) : ab_K := o_aload 0 <| o_getf 0 7 <| o_push (.int 3) <| o_cmp (fun x y => decide (¬ x = y)) 1 <| o_aload 0 <| o_getf 0 8 <| o_aload 0 <| o_getf 0 1 <| o_getf 4 1 <| o_cmp (fun x y => decide (y ≤ x)) 1 <| o_aload 0 <| o_getf 0 1 <| o_getf 4 0 <| o_aload 0 <| o_getf 0 8 <| o_iald 0 <| o_goto 2
def bX1_signAtHand_1 (cal : ab_F) : ab_K := o_push (.int 0) <| o_goto 2
def bX1_signAtHand_2 (cal : ab_F) : ab_K := o_ret (some .int)
def bX1_signAtHand (cal : ab_F) : List ab_K := [bX1_signAtHand_0 cal, bX1_signAtHand_1 cal, bX1_signAtHand_2 cal]
set_option maxRecDepth 100000 in
theorem sX1_signAtHand_0 {G : ab_G} {xs : List Int32} {d : Nat} {cal : ab_F} (hcs : ab_CS G (ab_Z G xs) ab_Mf cal d) : ab_Sd G (ab_Z G xs) (d + 1) (ab_mY mX1_signAtHand pX1_signAtHand) 0 (bX1_signAtHand_0 cal) :=
  sn_aload_n dX1_signAtHand_0 rfl <| sn_getf dX1_signAtHand_1 rfl hinX1 (by decide) w_204 <| sn_iconst dX1_signAtHand_4 rfl <| sn_cmp_ne (tg := 37) dX1_signAtHand_5 rfl rfl <| sn_aload_n dX1_signAtHand_8 rfl <| sn_getf dX1_signAtHand_9 rfl hinX1 (by decide) w_205 <| sn_aload_n dX1_signAtHand_12 rfl <| sn_getf dX1_signAtHand_13 rfl hinX1 (by decide) w_198 <| sn_getf dX1_signAtHand_16 rfl hinX5 (by decide) w_182 <| sn_cmp_ge (tg := 37) dX1_signAtHand_19 rfl rfl <| sn_aload_n dX1_signAtHand_22 rfl <| sn_getf dX1_signAtHand_23 rfl hinX1 (by decide) w_198 <| sn_getf dX1_signAtHand_26 rfl hinX5 (by decide) w_180 <| sn_aload_n dX1_signAtHand_29 rfl <| sn_getf dX1_signAtHand_30 rfl hinX1 (by decide) w_205 <| sn_iald dX1_signAtHand_33 rfl <| sn_goto (tg := 38) dX1_signAtHand_34 rfl rfl
set_option maxRecDepth 100000 in
theorem sX1_signAtHand_1 {G : ab_G} {xs : List Int32} {d : Nat} {cal : ab_F} (hcs : ab_CS G (ab_Z G xs) ab_Mf cal d) : ab_Sd G (ab_Z G xs) (d + 1) (ab_mY mX1_signAtHand pX1_signAtHand) 37 (bX1_signAtHand_1 cal) :=
  sn_iconst dX1_signAtHand_37 rfl <| sn_next rfl
set_option maxRecDepth 100000 in
theorem sX1_signAtHand_2 {G : ab_G} {xs : List Int32} {d : Nat} {cal : ab_F} (hcs : ab_CS G (ab_Z G xs) ab_Mf cal d) : ab_Sd G (ab_Z G xs) (d + 1) (ab_mY mX1_signAtHand pX1_signAtHand) 38 (bX1_signAtHand_2 cal) :=
  sn_ret dX1_signAtHand_38 ab_ri_int
theorem sX1_signAtHand {G : ab_G} {xs : List Int32} {d : Nat} {cal : ab_F} (hcs : ab_CS G (ab_Z G xs) ab_Mf cal d) : ab_BS G (ab_Z G xs) (d + 1) (ab_mY mX1_signAtHand pX1_signAtHand) pX1_signAtHand (bX1_signAtHand cal) := ⟨sX1_signAtHand_0 hcs, sX1_signAtHand_1 hcs, sX1_signAtHand_2 hcs, trivial⟩
theorem dgX1_readLevel_0 : decode cX1_readLevel 0 = .ok (.iload_n 1, 1) ∧ decode cX1_readLevel 1 = .ok (.iconst 5, 1) ∧ decode cX1_readLevel 2 = .ok (.if_icmp .lt 10, 3) ∧ decode cX1_readLevel 5 = .ok (.aload_n 0, 1) ∧ decode cX1_readLevel 6 = .ok (.iload_n 2, 1) ∧ decode cX1_readLevel 7 = .ok (.iload_n 3, 1) ∧ decode cX1_readLevel 8 = .ok (.invokevirtual 112, 3) ∧ decode cX1_readLevel 11 = .ok (.return_, 1) ∧ decode cX1_readLevel 12 = .ok (.aload_n 0, 1) ∧ decode cX1_readLevel 13 = .ok (.iload_n 1, 1) ∧ decode cX1_readLevel 14 = .ok (.iconst 1, 1) ∧ decode cX1_readLevel 15 = .ok (.iadd, 1) ∧ decode cX1_readLevel 16 = .ok (.iload_n 2, 1) ∧ decode cX1_readLevel 17 = .ok (.iload_n 3, 1) ∧ decode cX1_readLevel 18 = .ok (.invokevirtual 51, 3) ∧ decode cX1_readLevel 21 = .ok (.iload_n 1, 1) := by decide +kernel
theorem dX1_readLevel_0 : decode cX1_readLevel 0 = .ok (.iload_n 1, 1) := dgX1_readLevel_0.1
theorem dX1_readLevel_1 : decode cX1_readLevel 1 = .ok (.iconst 5, 1) := dgX1_readLevel_0.2.1
theorem dX1_readLevel_2 : decode cX1_readLevel 2 = .ok (.if_icmp .lt 10, 3) := dgX1_readLevel_0.2.2.1
theorem dX1_readLevel_5 : decode cX1_readLevel 5 = .ok (.aload_n 0, 1) := dgX1_readLevel_0.2.2.2.1
theorem dX1_readLevel_6 : decode cX1_readLevel 6 = .ok (.iload_n 2, 1) := dgX1_readLevel_0.2.2.2.2.1
theorem dX1_readLevel_7 : decode cX1_readLevel 7 = .ok (.iload_n 3, 1) := dgX1_readLevel_0.2.2.2.2.2.1
theorem dX1_readLevel_8 : decode cX1_readLevel 8 = .ok (.invokevirtual 112, 3) := dgX1_readLevel_0.2.2.2.2.2.2.1
theorem dX1_readLevel_11 : decode cX1_readLevel 11 = .ok (.return_, 1) := dgX1_readLevel_0.2.2.2.2.2.2.2.1
theorem dX1_readLevel_12 : decode cX1_readLevel 12 = .ok (.aload_n 0, 1) := dgX1_readLevel_0.2.2.2.2.2.2.2.2.1
theorem dX1_readLevel_13 : decode cX1_readLevel 13 = .ok (.iload_n 1, 1) := dgX1_readLevel_0.2.2.2.2.2.2.2.2.2.1
theorem dX1_readLevel_14 : decode cX1_readLevel 14 = .ok (.iconst 1, 1) := dgX1_readLevel_0.2.2.2.2.2.2.2.2.2.2.1
theorem dX1_readLevel_15 : decode cX1_readLevel 15 = .ok (.iadd, 1) := dgX1_readLevel_0.2.2.2.2.2.2.2.2.2.2.2.1
theorem dX1_readLevel_16 : decode cX1_readLevel 16 = .ok (.iload_n 2, 1) := dgX1_readLevel_0.2.2.2.2.2.2.2.2.2.2.2.2.1
theorem dX1_readLevel_17 : decode cX1_readLevel 17 = .ok (.iload_n 3, 1) := dgX1_readLevel_0.2.2.2.2.2.2.2.2.2.2.2.2.2.1
theorem dX1_readLevel_18 : decode cX1_readLevel 18 = .ok (.invokevirtual 51, 3) := dgX1_readLevel_0.2.2.2.2.2.2.2.2.2.2.2.2.2.2.1
theorem dX1_readLevel_21 : decode cX1_readLevel 21 = .ok (.iload_n 1, 1) := dgX1_readLevel_0.2.2.2.2.2.2.2.2.2.2.2.2.2.2.2
theorem dgX1_readLevel_1 : decode cX1_readLevel 22 = .ok (.iconst 2, 1) ∧ decode cX1_readLevel 23 = .ok (.if_icmp .ne 7, 3) ∧ decode cX1_readLevel 26 = .ok (.iconst 1, 1) ∧ decode cX1_readLevel 27 = .ok (.goto 5, 3) ∧ decode cX1_readLevel 30 = .ok (.bipush 96, 2) ∧ decode cX1_readLevel 32 = .ok (.istore 4, 2) ∧ decode cX1_readLevel 34 = .ok (.iconst 0, 1) ∧ decode cX1_readLevel 35 = .ok (.istore 5, 2) ∧ decode cX1_readLevel 37 = .ok (.iload 5, 2) ∧ decode cX1_readLevel 39 = .ok (.iload 4, 2) ∧ decode cX1_readLevel 41 = .ok (.if_icmp .ge 54, 3) ∧ decode cX1_readLevel 44 = .ok (.aload_n 0, 1) ∧ decode cX1_readLevel 45 = .ok (.getfield 39, 3) ∧ decode cX1_readLevel 48 = .ok (.iconst (-1), 1) ∧ decode cX1_readLevel 49 = .ok (.if_icmp .ne 46, 3) ∧ decode cX1_readLevel 52 = .ok (.aload_n 0, 1) := by decide +kernel
theorem dX1_readLevel_22 : decode cX1_readLevel 22 = .ok (.iconst 2, 1) := dgX1_readLevel_1.1
theorem dX1_readLevel_23 : decode cX1_readLevel 23 = .ok (.if_icmp .ne 7, 3) := dgX1_readLevel_1.2.1
theorem dX1_readLevel_26 : decode cX1_readLevel 26 = .ok (.iconst 1, 1) := dgX1_readLevel_1.2.2.1
theorem dX1_readLevel_27 : decode cX1_readLevel 27 = .ok (.goto 5, 3) := dgX1_readLevel_1.2.2.2.1
theorem dX1_readLevel_30 : decode cX1_readLevel 30 = .ok (.bipush 96, 2) := dgX1_readLevel_1.2.2.2.2.1
theorem dX1_readLevel_32 : decode cX1_readLevel 32 = .ok (.istore 4, 2) := dgX1_readLevel_1.2.2.2.2.2.1
theorem dX1_readLevel_34 : decode cX1_readLevel 34 = .ok (.iconst 0, 1) := dgX1_readLevel_1.2.2.2.2.2.2.1
theorem dX1_readLevel_35 : decode cX1_readLevel 35 = .ok (.istore 5, 2) := dgX1_readLevel_1.2.2.2.2.2.2.2.1
theorem dX1_readLevel_37 : decode cX1_readLevel 37 = .ok (.iload 5, 2) := dgX1_readLevel_1.2.2.2.2.2.2.2.2.1
theorem dX1_readLevel_39 : decode cX1_readLevel 39 = .ok (.iload 4, 2) := dgX1_readLevel_1.2.2.2.2.2.2.2.2.2.1
theorem dX1_readLevel_41 : decode cX1_readLevel 41 = .ok (.if_icmp .ge 54, 3) := dgX1_readLevel_1.2.2.2.2.2.2.2.2.2.2.1
theorem dX1_readLevel_44 : decode cX1_readLevel 44 = .ok (.aload_n 0, 1) := dgX1_readLevel_1.2.2.2.2.2.2.2.2.2.2.2.1
theorem dX1_readLevel_45 : decode cX1_readLevel 45 = .ok (.getfield 39, 3) := dgX1_readLevel_1.2.2.2.2.2.2.2.2.2.2.2.2.1
theorem dX1_readLevel_48 : decode cX1_readLevel 48 = .ok (.iconst (-1), 1) := dgX1_readLevel_1.2.2.2.2.2.2.2.2.2.2.2.2.2.1
theorem dX1_readLevel_49 : decode cX1_readLevel 49 = .ok (.if_icmp .ne 46, 3) := dgX1_readLevel_1.2.2.2.2.2.2.2.2.2.2.2.2.2.2.1
theorem dX1_readLevel_52 : decode cX1_readLevel 52 = .ok (.aload_n 0, 1) := dgX1_readLevel_1.2.2.2.2.2.2.2.2.2.2.2.2.2.2.2
theorem dgX1_readLevel_2 : decode cX1_readLevel 53 = .ok (.invokevirtual 116, 3) ∧ decode cX1_readLevel 56 = .ok (.invokestatic 119, 3) ∧ decode cX1_readLevel 59 = .ok (.iload_n 1, 1) ∧ decode cX1_readLevel 60 = .ok (.if_icmp .ne 35, 3) ∧ decode cX1_readLevel 63 = .ok (.aload_n 0, 1) ∧ decode cX1_readLevel 64 = .ok (.invokevirtual 116, 3) ∧ decode cX1_readLevel 67 = .ok (.istore 6, 2) ∧ decode cX1_readLevel 69 = .ok (.aload_n 0, 1) ∧ decode cX1_readLevel 70 = .ok (.invokevirtual 48, 3) ∧ decode cX1_readLevel 73 = .ok (.aload_n 0, 1) ∧ decode cX1_readLevel 74 = .ok (.iload_n 1, 1) ∧ decode cX1_readLevel 75 = .ok (.iconst 1, 1) ∧ decode cX1_readLevel 76 = .ok (.iadd, 1) ∧ decode cX1_readLevel 77 = .ok (.iload_n 2, 1) ∧ decode cX1_readLevel 78 = .ok (.iload_n 3, 1) ∧ decode cX1_readLevel 79 = .ok (.invokevirtual 51, 3) := by decide +kernel
theorem dX1_readLevel_53 : decode cX1_readLevel 53 = .ok (.invokevirtual 116, 3) := dgX1_readLevel_2.1
theorem dX1_readLevel_56 : decode cX1_readLevel 56 = .ok (.invokestatic 119, 3) := dgX1_readLevel_2.2.1
theorem dX1_readLevel_59 : decode cX1_readLevel 59 = .ok (.iload_n 1, 1) := dgX1_readLevel_2.2.2.1
theorem dX1_readLevel_60 : decode cX1_readLevel 60 = .ok (.if_icmp .ne 35, 3) := dgX1_readLevel_2.2.2.2.1
theorem dX1_readLevel_63 : decode cX1_readLevel 63 = .ok (.aload_n 0, 1) := dgX1_readLevel_2.2.2.2.2.1
theorem dX1_readLevel_64 : decode cX1_readLevel 64 = .ok (.invokevirtual 116, 3) := dgX1_readLevel_2.2.2.2.2.2.1
theorem dX1_readLevel_67 : decode cX1_readLevel 67 = .ok (.istore 6, 2) := dgX1_readLevel_2.2.2.2.2.2.2.1
theorem dX1_readLevel_69 : decode cX1_readLevel 69 = .ok (.aload_n 0, 1) := dgX1_readLevel_2.2.2.2.2.2.2.2.1
theorem dX1_readLevel_70 : decode cX1_readLevel 70 = .ok (.invokevirtual 48, 3) := dgX1_readLevel_2.2.2.2.2.2.2.2.2.1
theorem dX1_readLevel_73 : decode cX1_readLevel 73 = .ok (.aload_n 0, 1) := dgX1_readLevel_2.2.2.2.2.2.2.2.2.2.1
theorem dX1_readLevel_74 : decode cX1_readLevel 74 = .ok (.iload_n 1, 1) := dgX1_readLevel_2.2.2.2.2.2.2.2.2.2.2.1
theorem dX1_readLevel_75 : decode cX1_readLevel 75 = .ok (.iconst 1, 1) := dgX1_readLevel_2.2.2.2.2.2.2.2.2.2.2.2.1
theorem dX1_readLevel_76 : decode cX1_readLevel 76 = .ok (.iadd, 1) := dgX1_readLevel_2.2.2.2.2.2.2.2.2.2.2.2.2.1
theorem dX1_readLevel_77 : decode cX1_readLevel 77 = .ok (.iload_n 2, 1) := dgX1_readLevel_2.2.2.2.2.2.2.2.2.2.2.2.2.2.1
theorem dX1_readLevel_78 : decode cX1_readLevel 78 = .ok (.iload_n 3, 1) := dgX1_readLevel_2.2.2.2.2.2.2.2.2.2.2.2.2.2.2.1
theorem dX1_readLevel_79 : decode cX1_readLevel 79 = .ok (.invokevirtual 51, 3) := dgX1_readLevel_2.2.2.2.2.2.2.2.2.2.2.2.2.2.2.2
theorem dgX1_readLevel_3 : decode cX1_readLevel 82 = .ok (.aload_n 0, 1) ∧ decode cX1_readLevel 83 = .ok (.iload 6, 2) ∧ decode cX1_readLevel 85 = .ok (.iconst 0, 1) ∧ decode cX1_readLevel 86 = .ok (.invokevirtual 122, 3) ∧ decode cX1_readLevel 89 = .ok (.iinc 5 1, 3) ∧ decode cX1_readLevel 92 = .ok (.goto (-55), 3) ∧ decode cX1_readLevel 95 = .ok (.return_, 1) := by decide +kernel
theorem dX1_readLevel_82 : decode cX1_readLevel 82 = .ok (.aload_n 0, 1) := dgX1_readLevel_3.1
theorem dX1_readLevel_83 : decode cX1_readLevel 83 = .ok (.iload 6, 2) := dgX1_readLevel_3.2.1
theorem dX1_readLevel_85 : decode cX1_readLevel 85 = .ok (.iconst 0, 1) := dgX1_readLevel_3.2.2.1
theorem dX1_readLevel_86 : decode cX1_readLevel 86 = .ok (.invokevirtual 122, 3) := dgX1_readLevel_3.2.2.2.1
theorem dX1_readLevel_89 : decode cX1_readLevel 89 = .ok (.iinc 5 1, 3) := dgX1_readLevel_3.2.2.2.2.1
theorem dX1_readLevel_92 : decode cX1_readLevel 92 = .ok (.goto (-55), 3) := dgX1_readLevel_3.2.2.2.2.2.1
theorem dX1_readLevel_95 : decode cX1_readLevel 95 = .ok (.return_, 1) := dgX1_readLevel_3.2.2.2.2.2.2
abbrev pX1_readLevel : List Nat := [0, 12, 30, 32, 37, 95]
def bX1_readLevel_0 (cal : ab_F) : ab_K := o_iload 1 <| o_push (.int 5) <| o_cmp (fun x y => decide (x < y)) 1 <| o_aload 0 <| o_iload 2 <| o_iload 3 <| o_callV cal 14 2 0 <| o_ret none
def bX1_readLevel_1 (cal : ab_F) : ab_K := o_aload 0 <| o_iload 1 <| o_push (.int 1) <| o_bin (fun x y => x + y) <| o_iload 2 <| o_iload 3 <| o_callV cal 12 3 0 <| o_iload 1 <| o_push (.int 2) <| o_cmp (fun x y => decide (¬ x = y)) 2 <| o_push (.int 1) <| o_goto 3
def bX1_readLevel_2 (cal : ab_F) : ab_K := o_push (.int 96) <| o_goto 3
def bX1_readLevel_3 (cal : ab_F) : ab_K := o_istore 4 <| o_push (.int 0) <| o_istore 5 <| o_goto 4
def bX1_readLevel_4 (cal : ab_F) : ab_K := o_iload 5 <| o_iload 4 <| o_cmp (fun x y => decide (y ≤ x)) 5 <| o_aload 0 <| o_getf 0 0 <| o_push (.int (-1)) <| o_cmp (fun x y => decide (¬ x = y)) 5 <| o_aload 0 <| o_callV cal 11 0 0 <| o_callS cal 13 1 <| o_iload 1 <| o_cmp (fun x y => decide (¬ x = y)) 5 <| o_aload 0 <| o_callV cal 11 0 0 <| o_istore 6 <| o_aload 0 <| o_callV cal 9 0 0 <| o_aload 0 <| o_iload 1 <| o_push (.int 1) <| o_bin (fun x y => x + y) <| o_iload 2 <| o_iload 3 <| o_callV cal 12 3 0 <| o_aload 0 <| o_iload 6 <| o_push (.int 0) <| o_callV cal 19 2 0 <| o_iinc 5 1 <| o_goto 4
def bX1_readLevel_5 (cal : ab_F) : ab_K := o_ret none
def bX1_readLevel (cal : ab_F) : List ab_K := [bX1_readLevel_0 cal, bX1_readLevel_1 cal, bX1_readLevel_2 cal, bX1_readLevel_3 cal, bX1_readLevel_4 cal, bX1_readLevel_5 cal]
set_option maxRecDepth 100000 in
theorem sX1_readLevel_0 {G : ab_G} {xs : List Int32} {d : Nat} {cal : ab_F} (hcs : ab_CS G (ab_Z G xs) ab_Mf cal d) : ab_Sd G (ab_Z G xs) (d + 1) (ab_mY mX1_readLevel pX1_readLevel) 0 (bX1_readLevel_0 cal) :=
  sn_iload_n dX1_readLevel_0 rfl <| sn_iconst dX1_readLevel_1 rfl <| sn_cmp_lt (tg := 12) dX1_readLevel_2 rfl rfl <| sn_aload_n dX1_readLevel_5 rfl <| sn_iload_n dX1_readLevel_6 rfl <| sn_iload_n dX1_readLevel_7 rfl <| sq_callV mt_14 hcs dX1_readLevel_8 rfl w_751 w_753 w_8 w_60 w_754 hy_14 hm_14 <| sn_ret dX1_readLevel_11 ab_ri_void
set_option maxRecDepth 100000 in
theorem sX1_readLevel_1 {G : ab_G} {xs : List Int32} {d : Nat} {cal : ab_F} (hcs : ab_CS G (ab_Z G xs) ab_Mf cal d) : ab_Sd G (ab_Z G xs) (d + 1) (ab_mY mX1_readLevel pX1_readLevel) 12 (bX1_readLevel_1 cal) :=
  sn_aload_n dX1_readLevel_12 rfl <| sn_iload_n dX1_readLevel_13 rfl <| sn_iconst dX1_readLevel_14 rfl <| sn_iadd dX1_readLevel_15 <| sn_iload_n dX1_readLevel_16 rfl <| sn_iload_n dX1_readLevel_17 rfl <| sq_callV mt_12 hcs dX1_readLevel_18 rfl w_747 w_749 w_7 w_60 w_750 hy_12 hm_12 <| sn_iload_n dX1_readLevel_21 rfl <| sn_iconst dX1_readLevel_22 rfl <| sn_cmp_ne (tg := 30) dX1_readLevel_23 rfl rfl <| sn_iconst dX1_readLevel_26 rfl <| sn_goto (tg := 32) dX1_readLevel_27 rfl rfl
set_option maxRecDepth 100000 in
theorem sX1_readLevel_2 {G : ab_G} {xs : List Int32} {d : Nat} {cal : ab_F} (hcs : ab_CS G (ab_Z G xs) ab_Mf cal d) : ab_Sd G (ab_Z G xs) (d + 1) (ab_mY mX1_readLevel pX1_readLevel) 30 (bX1_readLevel_2 cal) :=
  sn_bipush dX1_readLevel_30 rfl <| sn_next rfl
set_option maxRecDepth 100000 in
theorem sX1_readLevel_3 {G : ab_G} {xs : List Int32} {d : Nat} {cal : ab_F} (hcs : ab_CS G (ab_Z G xs) ab_Mf cal d) : ab_Sd G (ab_Z G xs) (d + 1) (ab_mY mX1_readLevel pX1_readLevel) 32 (bX1_readLevel_3 cal) :=
  sn_istore dX1_readLevel_32 (by decide) <| sn_iconst dX1_readLevel_34 rfl <| sn_istore dX1_readLevel_35 (by decide) <| sn_next rfl
set_option maxRecDepth 100000 in
theorem sX1_readLevel_4 {G : ab_G} {xs : List Int32} {d : Nat} {cal : ab_F} (hcs : ab_CS G (ab_Z G xs) ab_Mf cal d) : ab_Sd G (ab_Z G xs) (d + 1) (ab_mY mX1_readLevel pX1_readLevel) 37 (bX1_readLevel_4 cal) :=
  sn_iload dX1_readLevel_37 <| sn_iload dX1_readLevel_39 <| sn_cmp_ge (tg := 95) dX1_readLevel_41 rfl rfl <| sn_aload_n dX1_readLevel_44 rfl <| sn_getf dX1_readLevel_45 rfl hinX1 (by decide) w_196 <| sn_iconst dX1_readLevel_48 rfl <| sn_cmp_ne (tg := 95) dX1_readLevel_49 rfl rfl <| sn_aload_n dX1_readLevel_52 rfl <| sq_callV mt_11 hcs dX1_readLevel_53 rfl w_755 w_757 w_9 w_60 w_758 hy_11 hm_11 <| sq_callS mt_13 hcs dX1_readLevel_56 w_834 w_835 w_60 w_836 hy_13 hm_13 <| sn_iload_n dX1_readLevel_59 rfl <| sn_cmp_ne (tg := 95) dX1_readLevel_60 rfl rfl <| sn_aload_n dX1_readLevel_63 rfl <| sq_callV mt_11 hcs dX1_readLevel_64 rfl w_755 w_757 w_9 w_60 w_758 hy_11 hm_11 <| sn_istore dX1_readLevel_67 (by decide) <| sn_aload_n dX1_readLevel_69 rfl <| sq_callV mt_9 hcs dX1_readLevel_70 rfl w_677 w_679 w_3 w_60 w_680 hy_9 hm_9 <| sn_aload_n dX1_readLevel_73 rfl <| sn_iload_n dX1_readLevel_74 rfl <| sn_iconst dX1_readLevel_75 rfl <| sn_iadd dX1_readLevel_76 <| sn_iload_n dX1_readLevel_77 rfl <| sn_iload_n dX1_readLevel_78 rfl <| sq_callV mt_12 hcs dX1_readLevel_79 rfl w_747 w_749 w_7 w_60 w_750 hy_12 hm_12 <| sn_aload_n dX1_readLevel_82 rfl <| sn_iload dX1_readLevel_83 <| sn_iconst dX1_readLevel_85 rfl <| sq_callV mt_19 hcs dX1_readLevel_86 rfl w_759 w_761 w_10 w_60 w_762 hy_19 hm_19 <| sn_iinc dX1_readLevel_89 rfl (by decide) <| sn_goto (tg := 37) dX1_readLevel_92 rfl rfl
set_option maxRecDepth 100000 in
theorem sX1_readLevel_5 {G : ab_G} {xs : List Int32} {d : Nat} {cal : ab_F} (hcs : ab_CS G (ab_Z G xs) ab_Mf cal d) : ab_Sd G (ab_Z G xs) (d + 1) (ab_mY mX1_readLevel pX1_readLevel) 95 (bX1_readLevel_5 cal) :=
  sn_ret dX1_readLevel_95 ab_ri_void
theorem sX1_readLevel {G : ab_G} {xs : List Int32} {d : Nat} {cal : ab_F} (hcs : ab_CS G (ab_Z G xs) ab_Mf cal d) : ab_BS G (ab_Z G xs) (d + 1) (ab_mY mX1_readLevel pX1_readLevel) pX1_readLevel (bX1_readLevel cal) := ⟨sX1_readLevel_0 hcs, sX1_readLevel_1 hcs, sX1_readLevel_2 hcs, sX1_readLevel_3 hcs, sX1_readLevel_4 hcs, sX1_readLevel_5 hcs, trivial⟩
theorem dgX1_levelOf_0 : decode cX1_levelOf 0 = .ok (.iload_n 0, 1) ∧ decode cX1_levelOf 1 = .ok (.lookupswitch 93 #[(38, 85), (42, 91), (43, 89), (45, 89), (47, 91), (60, 87), (61, 87), (62, 87), (124, 83)], 83) ∧ decode cX1_levelOf 84 = .ok (.iconst 0, 1) ∧ decode cX1_levelOf 85 = .ok (.ireturn, 1) ∧ decode cX1_levelOf 86 = .ok (.iconst 1, 1) ∧ decode cX1_levelOf 87 = .ok (.ireturn, 1) ∧ decode cX1_levelOf 88 = .ok (.iconst 2, 1) ∧ decode cX1_levelOf 89 = .ok (.ireturn, 1) ∧ decode cX1_levelOf 90 = .ok (.iconst 3, 1) ∧ decode cX1_levelOf 91 = .ok (.ireturn, 1) ∧ decode cX1_levelOf 92 = .ok (.iconst 4, 1) ∧ decode cX1_levelOf 93 = .ok (.ireturn, 1) ∧ decode cX1_levelOf 94 = .ok (.iconst (-1), 1) ∧ decode cX1_levelOf 95 = .ok (.ireturn, 1) := by decide +kernel
theorem dX1_levelOf_0 : decode cX1_levelOf 0 = .ok (.iload_n 0, 1) := dgX1_levelOf_0.1
theorem dX1_levelOf_1 : decode cX1_levelOf 1 = .ok (.lookupswitch 93 #[(38, 85), (42, 91), (43, 89), (45, 89), (47, 91), (60, 87), (61, 87), (62, 87), (124, 83)], 83) := dgX1_levelOf_0.2.1
theorem dX1_levelOf_84 : decode cX1_levelOf 84 = .ok (.iconst 0, 1) := dgX1_levelOf_0.2.2.1
theorem dX1_levelOf_85 : decode cX1_levelOf 85 = .ok (.ireturn, 1) := dgX1_levelOf_0.2.2.2.1
theorem dX1_levelOf_86 : decode cX1_levelOf 86 = .ok (.iconst 1, 1) := dgX1_levelOf_0.2.2.2.2.1
theorem dX1_levelOf_87 : decode cX1_levelOf 87 = .ok (.ireturn, 1) := dgX1_levelOf_0.2.2.2.2.2.1
theorem dX1_levelOf_88 : decode cX1_levelOf 88 = .ok (.iconst 2, 1) := dgX1_levelOf_0.2.2.2.2.2.2.1
theorem dX1_levelOf_89 : decode cX1_levelOf 89 = .ok (.ireturn, 1) := dgX1_levelOf_0.2.2.2.2.2.2.2.1
theorem dX1_levelOf_90 : decode cX1_levelOf 90 = .ok (.iconst 3, 1) := dgX1_levelOf_0.2.2.2.2.2.2.2.2.1
theorem dX1_levelOf_91 : decode cX1_levelOf 91 = .ok (.ireturn, 1) := dgX1_levelOf_0.2.2.2.2.2.2.2.2.2.1
theorem dX1_levelOf_92 : decode cX1_levelOf 92 = .ok (.iconst 4, 1) := dgX1_levelOf_0.2.2.2.2.2.2.2.2.2.2.1
theorem dX1_levelOf_93 : decode cX1_levelOf 93 = .ok (.ireturn, 1) := dgX1_levelOf_0.2.2.2.2.2.2.2.2.2.2.2.1
theorem dX1_levelOf_94 : decode cX1_levelOf 94 = .ok (.iconst (-1), 1) := dgX1_levelOf_0.2.2.2.2.2.2.2.2.2.2.2.2.1
theorem dX1_levelOf_95 : decode cX1_levelOf 95 = .ok (.ireturn, 1) := dgX1_levelOf_0.2.2.2.2.2.2.2.2.2.2.2.2.2
abbrev pX1_levelOf : List Nat := [0, 84, 86, 88, 90, 92, 94]
def bX1_levelOf_0 (cal : ab_F) : ab_K := o_iload 0 <| o_sw (fun x => ab_lsw [(38, 2), (42, 5), (43, 4), (45, 4), (47, 5), (60, 3), (61, 3), (62, 3), (124, 1)] 6 x.toInt)
def bX1_levelOf_1 (cal : ab_F) : ab_K := o_push (.int 0) <| o_ret (some .int)
def bX1_levelOf_2 (cal : ab_F) : ab_K := o_push (.int 1) <| o_ret (some .int)
def bX1_levelOf_3 (cal : ab_F) : ab_K := o_push (.int 2) <| o_ret (some .int)
def bX1_levelOf_4 (cal : ab_F) : ab_K := o_push (.int 3) <| o_ret (some .int)
def bX1_levelOf_5 (cal : ab_F) : ab_K := o_push (.int 4) <| o_ret (some .int)
def bX1_levelOf_6 (cal : ab_F) : ab_K := o_push (.int (-1)) <| o_ret (some .int)
def bX1_levelOf (cal : ab_F) : List ab_K := [bX1_levelOf_0 cal, bX1_levelOf_1 cal, bX1_levelOf_2 cal, bX1_levelOf_3 cal, bX1_levelOf_4 cal, bX1_levelOf_5 cal, bX1_levelOf_6 cal]
set_option maxRecDepth 100000 in
theorem sX1_levelOf_0 {G : ab_G} {xs : List Int32} {d : Nat} {cal : ab_F} (hcs : ab_CS G (ab_Z G xs) ab_Mf cal d) : ab_Sd G (ab_Z G xs) (d + 1) (ab_mY mX1_levelOf pX1_levelOf) 0 (bX1_levelOf_0 cal) :=
  sn_iload_n dX1_levelOf_0 rfl <| sn_lsw dX1_levelOf_1 (by decide) rfl rfl (by decide)
set_option maxRecDepth 100000 in
theorem sX1_levelOf_1 {G : ab_G} {xs : List Int32} {d : Nat} {cal : ab_F} (hcs : ab_CS G (ab_Z G xs) ab_Mf cal d) : ab_Sd G (ab_Z G xs) (d + 1) (ab_mY mX1_levelOf pX1_levelOf) 84 (bX1_levelOf_1 cal) :=
  sn_iconst dX1_levelOf_84 rfl <| sn_ret dX1_levelOf_85 ab_ri_int
set_option maxRecDepth 100000 in
theorem sX1_levelOf_2 {G : ab_G} {xs : List Int32} {d : Nat} {cal : ab_F} (hcs : ab_CS G (ab_Z G xs) ab_Mf cal d) : ab_Sd G (ab_Z G xs) (d + 1) (ab_mY mX1_levelOf pX1_levelOf) 86 (bX1_levelOf_2 cal) :=
  sn_iconst dX1_levelOf_86 rfl <| sn_ret dX1_levelOf_87 ab_ri_int
set_option maxRecDepth 100000 in
theorem sX1_levelOf_3 {G : ab_G} {xs : List Int32} {d : Nat} {cal : ab_F} (hcs : ab_CS G (ab_Z G xs) ab_Mf cal d) : ab_Sd G (ab_Z G xs) (d + 1) (ab_mY mX1_levelOf pX1_levelOf) 88 (bX1_levelOf_3 cal) :=
  sn_iconst dX1_levelOf_88 rfl <| sn_ret dX1_levelOf_89 ab_ri_int
set_option maxRecDepth 100000 in
theorem sX1_levelOf_4 {G : ab_G} {xs : List Int32} {d : Nat} {cal : ab_F} (hcs : ab_CS G (ab_Z G xs) ab_Mf cal d) : ab_Sd G (ab_Z G xs) (d + 1) (ab_mY mX1_levelOf pX1_levelOf) 90 (bX1_levelOf_4 cal) :=
  sn_iconst dX1_levelOf_90 rfl <| sn_ret dX1_levelOf_91 ab_ri_int
set_option maxRecDepth 100000 in
theorem sX1_levelOf_5 {G : ab_G} {xs : List Int32} {d : Nat} {cal : ab_F} (hcs : ab_CS G (ab_Z G xs) ab_Mf cal d) : ab_Sd G (ab_Z G xs) (d + 1) (ab_mY mX1_levelOf pX1_levelOf) 92 (bX1_levelOf_5 cal) :=
  sn_iconst dX1_levelOf_92 rfl <| sn_ret dX1_levelOf_93 ab_ri_int
set_option maxRecDepth 100000 in
theorem sX1_levelOf_6 {G : ab_G} {xs : List Int32} {d : Nat} {cal : ab_F} (hcs : ab_CS G (ab_Z G xs) ab_Mf cal d) : ab_Sd G (ab_Z G xs) (d + 1) (ab_mY mX1_levelOf pX1_levelOf) 94 (bX1_levelOf_6 cal) :=
  sn_iconst dX1_levelOf_94 rfl <| sn_ret dX1_levelOf_95 ab_ri_int
theorem sX1_levelOf {G : ab_G} {xs : List Int32} {d : Nat} {cal : ab_F} (hcs : ab_CS G (ab_Z G xs) ab_Mf cal d) : ab_BS G (ab_Z G xs) (d + 1) (ab_mY mX1_levelOf pX1_levelOf) pX1_levelOf (bX1_levelOf cal) := ⟨sX1_levelOf_0 hcs, sX1_levelOf_1 hcs, sX1_levelOf_2 hcs, sX1_levelOf_3 hcs, sX1_levelOf_4 hcs, sX1_levelOf_5 hcs, sX1_levelOf_6 hcs, trivial⟩
theorem dgX1_readPiece_0 : decode cX1_readPiece 0 = .ok (.aload_n 0, 1) ∧ decode cX1_readPiece 1 = .ok (.invokevirtual 116, 3) ∧ decode cX1_readPiece 4 = .ok (.istore_n 3, 1) ∧ decode cX1_readPiece 5 = .ok (.iload_n 3, 1) ∧ decode cX1_readPiece 6 = .ok (.bipush 33, 2) ∧ decode cX1_readPiece 8 = .ok (.if_icmp .ne 31, 3) ∧ decode cX1_readPiece 11 = .ok (.iload_n 2, 1) ∧ decode cX1_readPiece 12 = .ok (.bipush 8, 2) ∧ decode cX1_readPiece 14 = .ok (.if_icmp .ge 25, 3) ∧ decode cX1_readPiece 17 = .ok (.aload_n 0, 1) ∧ decode cX1_readPiece 18 = .ok (.invokevirtual 48, 3) ∧ decode cX1_readPiece 21 = .ok (.aload_n 0, 1) ∧ decode cX1_readPiece 22 = .ok (.iload_n 1, 1) ∧ decode cX1_readPiece 23 = .ok (.iload_n 2, 1) ∧ decode cX1_readPiece 24 = .ok (.iconst 1, 1) ∧ decode cX1_readPiece 25 = .ok (.iadd, 1) := by decide +kernel
theorem dX1_readPiece_0 : decode cX1_readPiece 0 = .ok (.aload_n 0, 1) := dgX1_readPiece_0.1
theorem dX1_readPiece_1 : decode cX1_readPiece 1 = .ok (.invokevirtual 116, 3) := dgX1_readPiece_0.2.1
theorem dX1_readPiece_4 : decode cX1_readPiece 4 = .ok (.istore_n 3, 1) := dgX1_readPiece_0.2.2.1
theorem dX1_readPiece_5 : decode cX1_readPiece 5 = .ok (.iload_n 3, 1) := dgX1_readPiece_0.2.2.2.1
theorem dX1_readPiece_6 : decode cX1_readPiece 6 = .ok (.bipush 33, 2) := dgX1_readPiece_0.2.2.2.2.1
theorem dX1_readPiece_8 : decode cX1_readPiece 8 = .ok (.if_icmp .ne 31, 3) := dgX1_readPiece_0.2.2.2.2.2.1
theorem dX1_readPiece_11 : decode cX1_readPiece 11 = .ok (.iload_n 2, 1) := dgX1_readPiece_0.2.2.2.2.2.2.1
theorem dX1_readPiece_12 : decode cX1_readPiece 12 = .ok (.bipush 8, 2) := dgX1_readPiece_0.2.2.2.2.2.2.2.1
theorem dX1_readPiece_14 : decode cX1_readPiece 14 = .ok (.if_icmp .ge 25, 3) := dgX1_readPiece_0.2.2.2.2.2.2.2.2.1
theorem dX1_readPiece_17 : decode cX1_readPiece 17 = .ok (.aload_n 0, 1) := dgX1_readPiece_0.2.2.2.2.2.2.2.2.2.1
theorem dX1_readPiece_18 : decode cX1_readPiece 18 = .ok (.invokevirtual 48, 3) := dgX1_readPiece_0.2.2.2.2.2.2.2.2.2.2.1
theorem dX1_readPiece_21 : decode cX1_readPiece 21 = .ok (.aload_n 0, 1) := dgX1_readPiece_0.2.2.2.2.2.2.2.2.2.2.2.1
theorem dX1_readPiece_22 : decode cX1_readPiece 22 = .ok (.iload_n 1, 1) := dgX1_readPiece_0.2.2.2.2.2.2.2.2.2.2.2.2.1
theorem dX1_readPiece_23 : decode cX1_readPiece 23 = .ok (.iload_n 2, 1) := dgX1_readPiece_0.2.2.2.2.2.2.2.2.2.2.2.2.2.1
theorem dX1_readPiece_24 : decode cX1_readPiece 24 = .ok (.iconst 1, 1) := dgX1_readPiece_0.2.2.2.2.2.2.2.2.2.2.2.2.2.2.1
theorem dX1_readPiece_25 : decode cX1_readPiece 25 = .ok (.iadd, 1) := dgX1_readPiece_0.2.2.2.2.2.2.2.2.2.2.2.2.2.2.2
theorem dgX1_readPiece_1 : decode cX1_readPiece 26 = .ok (.invokevirtual 112, 3) ∧ decode cX1_readPiece 29 = .ok (.aload_n 0, 1) ∧ decode cX1_readPiece 30 = .ok (.bipush 33, 2) ∧ decode cX1_readPiece 32 = .ok (.iconst 0, 1) ∧ decode cX1_readPiece 33 = .ok (.invokevirtual 122, 3) ∧ decode cX1_readPiece 36 = .ok (.goto 39, 3) ∧ decode cX1_readPiece 39 = .ok (.iload_n 3, 1) ∧ decode cX1_readPiece 40 = .ok (.bipush 40, 2) ∧ decode cX1_readPiece 42 = .ok (.if_icmp .ne 29, 3) ∧ decode cX1_readPiece 45 = .ok (.iload_n 1, 1) ∧ decode cX1_readPiece 46 = .ok (.bipush 8, 2) ∧ decode cX1_readPiece 48 = .ok (.if_icmp .ge 23, 3) ∧ decode cX1_readPiece 51 = .ok (.aload_n 0, 1) ∧ decode cX1_readPiece 52 = .ok (.invokevirtual 48, 3) ∧ decode cX1_readPiece 55 = .ok (.aload_n 0, 1) ∧ decode cX1_readPiece 56 = .ok (.iconst 0, 1) := by decide +kernel
theorem dX1_readPiece_26 : decode cX1_readPiece 26 = .ok (.invokevirtual 112, 3) := dgX1_readPiece_1.1
theorem dX1_readPiece_29 : decode cX1_readPiece 29 = .ok (.aload_n 0, 1) := dgX1_readPiece_1.2.1
theorem dX1_readPiece_30 : decode cX1_readPiece 30 = .ok (.bipush 33, 2) := dgX1_readPiece_1.2.2.1
theorem dX1_readPiece_32 : decode cX1_readPiece 32 = .ok (.iconst 0, 1) := dgX1_readPiece_1.2.2.2.1
theorem dX1_readPiece_33 : decode cX1_readPiece 33 = .ok (.invokevirtual 122, 3) := dgX1_readPiece_1.2.2.2.2.1
theorem dX1_readPiece_36 : decode cX1_readPiece 36 = .ok (.goto 39, 3) := dgX1_readPiece_1.2.2.2.2.2.1
theorem dX1_readPiece_39 : decode cX1_readPiece 39 = .ok (.iload_n 3, 1) := dgX1_readPiece_1.2.2.2.2.2.2.1
theorem dX1_readPiece_40 : decode cX1_readPiece 40 = .ok (.bipush 40, 2) := dgX1_readPiece_1.2.2.2.2.2.2.2.1
theorem dX1_readPiece_42 : decode cX1_readPiece 42 = .ok (.if_icmp .ne 29, 3) := dgX1_readPiece_1.2.2.2.2.2.2.2.2.1
theorem dX1_readPiece_45 : decode cX1_readPiece 45 = .ok (.iload_n 1, 1) := dgX1_readPiece_1.2.2.2.2.2.2.2.2.2.1
theorem dX1_readPiece_46 : decode cX1_readPiece 46 = .ok (.bipush 8, 2) := dgX1_readPiece_1.2.2.2.2.2.2.2.2.2.2.1
theorem dX1_readPiece_48 : decode cX1_readPiece 48 = .ok (.if_icmp .ge 23, 3) := dgX1_readPiece_1.2.2.2.2.2.2.2.2.2.2.2.1
theorem dX1_readPiece_51 : decode cX1_readPiece 51 = .ok (.aload_n 0, 1) := dgX1_readPiece_1.2.2.2.2.2.2.2.2.2.2.2.2.1
theorem dX1_readPiece_52 : decode cX1_readPiece 52 = .ok (.invokevirtual 48, 3) := dgX1_readPiece_1.2.2.2.2.2.2.2.2.2.2.2.2.2.1
theorem dX1_readPiece_55 : decode cX1_readPiece 55 = .ok (.aload_n 0, 1) := dgX1_readPiece_1.2.2.2.2.2.2.2.2.2.2.2.2.2.2.1
theorem dX1_readPiece_56 : decode cX1_readPiece 56 = .ok (.iconst 0, 1) := dgX1_readPiece_1.2.2.2.2.2.2.2.2.2.2.2.2.2.2.2
theorem dgX1_readPiece_2 : decode cX1_readPiece 57 = .ok (.iload_n 1, 1) ∧ decode cX1_readPiece 58 = .ok (.iconst 1, 1) ∧ decode cX1_readPiece 59 = .ok (.iadd, 1) ∧ decode cX1_readPiece 60 = .ok (.iload_n 2, 1) ∧ decode cX1_readPiece 61 = .ok (.invokevirtual 51, 3) ∧ decode cX1_readPiece 64 = .ok (.aload_n 0, 1) ∧ decode cX1_readPiece 65 = .ok (.invokevirtual 125, 3) ∧ decode cX1_readPiece 68 = .ok (.goto 7, 3) ∧ decode cX1_readPiece 71 = .ok (.aload_n 0, 1) ∧ decode cX1_readPiece 72 = .ok (.invokevirtual 128, 3) ∧ decode cX1_readPiece 75 = .ok (.return_, 1) := by decide +kernel
theorem dX1_readPiece_57 : decode cX1_readPiece 57 = .ok (.iload_n 1, 1) := dgX1_readPiece_2.1
theorem dX1_readPiece_58 : decode cX1_readPiece 58 = .ok (.iconst 1, 1) := dgX1_readPiece_2.2.1
theorem dX1_readPiece_59 : decode cX1_readPiece 59 = .ok (.iadd, 1) := dgX1_readPiece_2.2.2.1
theorem dX1_readPiece_60 : decode cX1_readPiece 60 = .ok (.iload_n 2, 1) := dgX1_readPiece_2.2.2.2.1
theorem dX1_readPiece_61 : decode cX1_readPiece 61 = .ok (.invokevirtual 51, 3) := dgX1_readPiece_2.2.2.2.2.1
theorem dX1_readPiece_64 : decode cX1_readPiece 64 = .ok (.aload_n 0, 1) := dgX1_readPiece_2.2.2.2.2.2.1
theorem dX1_readPiece_65 : decode cX1_readPiece 65 = .ok (.invokevirtual 125, 3) := dgX1_readPiece_2.2.2.2.2.2.2.1
theorem dX1_readPiece_68 : decode cX1_readPiece 68 = .ok (.goto 7, 3) := dgX1_readPiece_2.2.2.2.2.2.2.2.1
theorem dX1_readPiece_71 : decode cX1_readPiece 71 = .ok (.aload_n 0, 1) := dgX1_readPiece_2.2.2.2.2.2.2.2.2.1
theorem dX1_readPiece_72 : decode cX1_readPiece 72 = .ok (.invokevirtual 128, 3) := dgX1_readPiece_2.2.2.2.2.2.2.2.2.2.1
theorem dX1_readPiece_75 : decode cX1_readPiece 75 = .ok (.return_, 1) := dgX1_readPiece_2.2.2.2.2.2.2.2.2.2.2
abbrev pX1_readPiece : List Nat := [0, 39, 71, 75]
def bX1_readPiece_0 (cal : ab_F) : ab_K := o_aload 0 <| o_callV cal 11 0 0 <| o_istore 3 <| o_iload 3 <| o_push (.int 33) <| o_cmp (fun x y => decide (¬ x = y)) 1 <| o_iload 2 <| o_push (.int 8) <| o_cmp (fun x y => decide (y ≤ x)) 1 <| o_aload 0 <| o_callV cal 9 0 0 <| o_aload 0 <| o_iload 1 <| o_iload 2 <| o_push (.int 1) <| o_bin (fun x y => x + y) <| o_callV cal 14 2 0 <| o_aload 0 <| o_push (.int 33) <| o_push (.int 0) <| o_callV cal 19 2 0 <| o_goto 3
def bX1_readPiece_1 (cal : ab_F) : ab_K := o_iload 3 <| o_push (.int 40) <| o_cmp (fun x y => decide (¬ x = y)) 2 <| o_iload 1 <| o_push (.int 8) <| o_cmp (fun x y => decide (y ≤ x)) 2 <| o_aload 0 <| o_callV cal 9 0 0 <| o_aload 0 <| o_push (.int 0) <| o_iload 1 <| o_push (.int 1) <| o_bin (fun x y => x + y) <| o_iload 2 <| o_callV cal 12 3 0 <| o_aload 0 <| o_callV cal 15 0 0 <| o_goto 3
def bX1_readPiece_2 (cal : ab_F) : ab_K := o_aload 0 <| o_callV cal 16 0 0 <| o_goto 3
def bX1_readPiece_3 (cal : ab_F) : ab_K := o_ret none
def bX1_readPiece (cal : ab_F) : List ab_K := [bX1_readPiece_0 cal, bX1_readPiece_1 cal, bX1_readPiece_2 cal, bX1_readPiece_3 cal]
set_option maxRecDepth 100000 in
theorem sX1_readPiece_0 {G : ab_G} {xs : List Int32} {d : Nat} {cal : ab_F} (hcs : ab_CS G (ab_Z G xs) ab_Mf cal d) : ab_Sd G (ab_Z G xs) (d + 1) (ab_mY mX1_readPiece pX1_readPiece) 0 (bX1_readPiece_0 cal) :=
  sn_aload_n dX1_readPiece_0 rfl <| sq_callV mt_11 hcs dX1_readPiece_1 rfl w_755 w_757 w_9 w_60 w_758 hy_11 hm_11 <| sn_istore_n dX1_readPiece_4 rfl (by decide) <| sn_iload_n dX1_readPiece_5 rfl <| sn_bipush dX1_readPiece_6 rfl <| sn_cmp_ne (tg := 39) dX1_readPiece_8 rfl rfl <| sn_iload_n dX1_readPiece_11 rfl <| sn_bipush dX1_readPiece_12 rfl <| sn_cmp_ge (tg := 39) dX1_readPiece_14 rfl rfl <| sn_aload_n dX1_readPiece_17 rfl <| sq_callV mt_9 hcs dX1_readPiece_18 rfl w_677 w_679 w_3 w_60 w_680 hy_9 hm_9 <| sn_aload_n dX1_readPiece_21 rfl <| sn_iload_n dX1_readPiece_22 rfl <| sn_iload_n dX1_readPiece_23 rfl <| sn_iconst dX1_readPiece_24 rfl <| sn_iadd dX1_readPiece_25 <| sq_callV mt_14 hcs dX1_readPiece_26 rfl w_751 w_753 w_8 w_60 w_754 hy_14 hm_14 <| sn_aload_n dX1_readPiece_29 rfl <| sn_bipush dX1_readPiece_30 rfl <| sn_iconst dX1_readPiece_32 rfl <| sq_callV mt_19 hcs dX1_readPiece_33 rfl w_759 w_761 w_10 w_60 w_762 hy_19 hm_19 <| sn_goto (tg := 75) dX1_readPiece_36 rfl rfl
set_option maxRecDepth 100000 in
theorem sX1_readPiece_1 {G : ab_G} {xs : List Int32} {d : Nat} {cal : ab_F} (hcs : ab_CS G (ab_Z G xs) ab_Mf cal d) : ab_Sd G (ab_Z G xs) (d + 1) (ab_mY mX1_readPiece pX1_readPiece) 39 (bX1_readPiece_1 cal) :=
  sn_iload_n dX1_readPiece_39 rfl <| sn_bipush dX1_readPiece_40 rfl <| sn_cmp_ne (tg := 71) dX1_readPiece_42 rfl rfl <| sn_iload_n dX1_readPiece_45 rfl <| sn_bipush dX1_readPiece_46 rfl <| sn_cmp_ge (tg := 71) dX1_readPiece_48 rfl rfl <| sn_aload_n dX1_readPiece_51 rfl <| sq_callV mt_9 hcs dX1_readPiece_52 rfl w_677 w_679 w_3 w_60 w_680 hy_9 hm_9 <| sn_aload_n dX1_readPiece_55 rfl <| sn_iconst dX1_readPiece_56 rfl <| sn_iload_n dX1_readPiece_57 rfl <| sn_iconst dX1_readPiece_58 rfl <| sn_iadd dX1_readPiece_59 <| sn_iload_n dX1_readPiece_60 rfl <| sq_callV mt_12 hcs dX1_readPiece_61 rfl w_747 w_749 w_7 w_60 w_750 hy_12 hm_12 <| sn_aload_n dX1_readPiece_64 rfl <| sq_callV mt_15 hcs dX1_readPiece_65 rfl w_763 w_765 w_11 w_60 w_766 hy_15 hm_15 <| sn_goto (tg := 75) dX1_readPiece_68 rfl rfl
set_option maxRecDepth 100000 in
theorem sX1_readPiece_2 {G : ab_G} {xs : List Int32} {d : Nat} {cal : ab_F} (hcs : ab_CS G (ab_Z G xs) ab_Mf cal d) : ab_Sd G (ab_Z G xs) (d + 1) (ab_mY mX1_readPiece pX1_readPiece) 71 (bX1_readPiece_2 cal) :=
  sn_aload_n dX1_readPiece_71 rfl <| sq_callV mt_16 hcs dX1_readPiece_72 rfl w_767 w_769 w_12 w_60 w_770 hy_16 hm_16 <| sn_next rfl
set_option maxRecDepth 100000 in
theorem sX1_readPiece_3 {G : ab_G} {xs : List Int32} {d : Nat} {cal : ab_F} (hcs : ab_CS G (ab_Z G xs) ab_Mf cal d) : ab_Sd G (ab_Z G xs) (d + 1) (ab_mY mX1_readPiece pX1_readPiece) 75 (bX1_readPiece_3 cal) :=
  sn_ret dX1_readPiece_75 ab_ri_void
theorem sX1_readPiece {G : ab_G} {xs : List Int32} {d : Nat} {cal : ab_F} (hcs : ab_CS G (ab_Z G xs) ab_Mf cal d) : ab_BS G (ab_Z G xs) (d + 1) (ab_mY mX1_readPiece pX1_readPiece) pX1_readPiece (bX1_readPiece cal) := ⟨sX1_readPiece_0 hcs, sX1_readPiece_1 hcs, sX1_readPiece_2 hcs, sX1_readPiece_3 hcs, trivial⟩
theorem dgX1_close_0 : decode cX1_close 0 = .ok (.aload_n 0, 1) ∧ decode cX1_close 1 = .ok (.getfield 39, 3) ∧ decode cX1_close 4 = .ok (.iconst (-1), 1) ∧ decode cX1_close 5 = .ok (.if_icmp .eq 4, 3) ∧ decode cX1_close 8 = .ok (.return_, 1) ∧ decode cX1_close 9 = .ok (.aload_n 0, 1) ∧ decode cX1_close 10 = .ok (.invokevirtual 116, 3) ∧ decode cX1_close 13 = .ok (.bipush 41, 2) ∧ decode cX1_close 15 = .ok (.if_icmp .ne 10, 3) ∧ decode cX1_close 18 = .ok (.aload_n 0, 1) ∧ decode cX1_close 19 = .ok (.invokevirtual 48, 3) ∧ decode cX1_close 22 = .ok (.goto 11, 3) ∧ decode cX1_close 25 = .ok (.aload_n 0, 1) ∧ decode cX1_close 26 = .ok (.aload_n 0, 1) ∧ decode cX1_close 27 = .ok (.getfield 35, 3) ∧ decode cX1_close 30 = .ok (.putfield 39, 3) := by decide +kernel
theorem dX1_close_0 : decode cX1_close 0 = .ok (.aload_n 0, 1) := dgX1_close_0.1
theorem dX1_close_1 : decode cX1_close 1 = .ok (.getfield 39, 3) := dgX1_close_0.2.1
theorem dX1_close_4 : decode cX1_close 4 = .ok (.iconst (-1), 1) := dgX1_close_0.2.2.1
theorem dX1_close_5 : decode cX1_close 5 = .ok (.if_icmp .eq 4, 3) := dgX1_close_0.2.2.2.1
theorem dX1_close_8 : decode cX1_close 8 = .ok (.return_, 1) := dgX1_close_0.2.2.2.2.1
theorem dX1_close_9 : decode cX1_close 9 = .ok (.aload_n 0, 1) := dgX1_close_0.2.2.2.2.2.1
theorem dX1_close_10 : decode cX1_close 10 = .ok (.invokevirtual 116, 3) := dgX1_close_0.2.2.2.2.2.2.1
theorem dX1_close_13 : decode cX1_close 13 = .ok (.bipush 41, 2) := dgX1_close_0.2.2.2.2.2.2.2.1
theorem dX1_close_15 : decode cX1_close 15 = .ok (.if_icmp .ne 10, 3) := dgX1_close_0.2.2.2.2.2.2.2.2.1
theorem dX1_close_18 : decode cX1_close 18 = .ok (.aload_n 0, 1) := dgX1_close_0.2.2.2.2.2.2.2.2.2.1
theorem dX1_close_19 : decode cX1_close 19 = .ok (.invokevirtual 48, 3) := dgX1_close_0.2.2.2.2.2.2.2.2.2.2.1
theorem dX1_close_22 : decode cX1_close 22 = .ok (.goto 11, 3) := dgX1_close_0.2.2.2.2.2.2.2.2.2.2.2.1
theorem dX1_close_25 : decode cX1_close 25 = .ok (.aload_n 0, 1) := dgX1_close_0.2.2.2.2.2.2.2.2.2.2.2.2.1
theorem dX1_close_26 : decode cX1_close 26 = .ok (.aload_n 0, 1) := dgX1_close_0.2.2.2.2.2.2.2.2.2.2.2.2.2.1
theorem dX1_close_27 : decode cX1_close 27 = .ok (.getfield 35, 3) := dgX1_close_0.2.2.2.2.2.2.2.2.2.2.2.2.2.2.1
theorem dX1_close_30 : decode cX1_close 30 = .ok (.putfield 39, 3) := dgX1_close_0.2.2.2.2.2.2.2.2.2.2.2.2.2.2.2
theorem dX1_close_33 : decode cX1_close 33 = .ok (.return_, 1) := by decide +kernel
abbrev pX1_close : List Nat := [0, 9, 25, 33]
def bX1_close_0 (cal : ab_F) : ab_K := o_aload 0 <| o_getf 0 0 <| o_push (.int (-1)) <| o_cmp (fun x y => decide (x = y)) 1 <| o_ret none
def bX1_close_1 (cal : ab_F) : ab_K := o_aload 0 <| o_callV cal 11 0 0 <| o_push (.int 41) <| o_cmp (fun x y => decide (¬ x = y)) 2 <| o_aload 0 <| o_callV cal 9 0 0 <| o_goto 3
def bX1_close_2 (cal : ab_F) : ab_K := o_aload 0 <| o_aload 0 <| o_getf 0 8 <| o_putI 0 0 <| o_goto 3
def bX1_close_3 (cal : ab_F) : ab_K := o_ret none
def bX1_close (cal : ab_F) : List ab_K := [bX1_close_0 cal, bX1_close_1 cal, bX1_close_2 cal, bX1_close_3 cal]
set_option maxRecDepth 100000 in
theorem sX1_close_0 {G : ab_G} {xs : List Int32} {d : Nat} {cal : ab_F} (hcs : ab_CS G (ab_Z G xs) ab_Mf cal d) : ab_Sd G (ab_Z G xs) (d + 1) (ab_mY mX1_close pX1_close) 0 (bX1_close_0 cal) :=
  sn_aload_n dX1_close_0 rfl <| sn_getf dX1_close_1 rfl hinX1 (by decide) w_196 <| sn_iconst dX1_close_4 rfl <| sn_cmp_eq (tg := 9) dX1_close_5 rfl rfl <| sn_ret dX1_close_8 ab_ri_void
set_option maxRecDepth 100000 in
theorem sX1_close_1 {G : ab_G} {xs : List Int32} {d : Nat} {cal : ab_F} (hcs : ab_CS G (ab_Z G xs) ab_Mf cal d) : ab_Sd G (ab_Z G xs) (d + 1) (ab_mY mX1_close pX1_close) 9 (bX1_close_1 cal) :=
  sn_aload_n dX1_close_9 rfl <| sq_callV mt_11 hcs dX1_close_10 rfl w_755 w_757 w_9 w_60 w_758 hy_11 hm_11 <| sn_bipush dX1_close_13 rfl <| sn_cmp_ne (tg := 25) dX1_close_15 rfl rfl <| sn_aload_n dX1_close_18 rfl <| sq_callV mt_9 hcs dX1_close_19 rfl w_677 w_679 w_3 w_60 w_680 hy_9 hm_9 <| sn_goto (tg := 33) dX1_close_22 rfl rfl
set_option maxRecDepth 100000 in
theorem sX1_close_2 {G : ab_G} {xs : List Int32} {d : Nat} {cal : ab_F} (hcs : ab_CS G (ab_Z G xs) ab_Mf cal d) : ab_Sd G (ab_Z G xs) (d + 1) (ab_mY mX1_close pX1_close) 25 (bX1_close_2 cal) :=
  sn_aload_n dX1_close_25 rfl <| sn_aload_n dX1_close_26 rfl <| sn_getf dX1_close_27 rfl hinX1 (by decide) w_205 <| sn_putI tyX1 tyX1_ok nmX1 dX1_close_30 rfl hinX1 (by decide) w_196 (Or.inl rfl) (tyX1_ok 0 (by decide)) <| sn_next rfl
set_option maxRecDepth 100000 in
theorem sX1_close_3 {G : ab_G} {xs : List Int32} {d : Nat} {cal : ab_F} (hcs : ab_CS G (ab_Z G xs) ab_Mf cal d) : ab_Sd G (ab_Z G xs) (d + 1) (ab_mY mX1_close pX1_close) 33 (bX1_close_3 cal) :=
  sn_ret dX1_close_33 ab_ri_void
theorem sX1_close {G : ab_G} {xs : List Int32} {d : Nat} {cal : ab_F} (hcs : ab_CS G (ab_Z G xs) ab_Mf cal d) : ab_BS G (ab_Z G xs) (d + 1) (ab_mY mX1_close pX1_close) pX1_close (bX1_close cal) := ⟨sX1_close_0 hcs, sX1_close_1 hcs, sX1_close_2 hcs, sX1_close_3 hcs, trivial⟩
theorem dgX1_readOperand_0 : decode cX1_readOperand 0 = .ok (.aload_n 0, 1) ∧ decode cX1_readOperand 1 = .ok (.getfield 108, 3) ∧ decode cX1_readOperand 4 = .ok (.ifCond .eq 14, 3) ∧ decode cX1_readOperand 7 = .ok (.aload_n 0, 1) ∧ decode cX1_readOperand 8 = .ok (.aload_n 0, 1) ∧ decode cX1_readOperand 9 = .ok (.getfield 35, 3) ∧ decode cX1_readOperand 12 = .ok (.putfield 39, 3) ∧ decode cX1_readOperand 15 = .ok (.goto 113, 3) ∧ decode cX1_readOperand 18 = .ok (.aload_n 0, 1) ∧ decode cX1_readOperand 19 = .ok (.getfield 55, 3) ∧ decode cX1_readOperand 22 = .ok (.iconst 2, 1) ∧ decode cX1_readOperand 23 = .ok (.if_icmp .ne 42, 3) ∧ decode cX1_readOperand 26 = .ok (.aload_n 0, 1) ∧ decode cX1_readOperand 27 = .ok (.getfield 75, 3) ∧ decode cX1_readOperand 30 = .ok (.aload_n 0, 1) ∧ decode cX1_readOperand 31 = .ok (.getfield 35, 3) := by decide +kernel
theorem dX1_readOperand_0 : decode cX1_readOperand 0 = .ok (.aload_n 0, 1) := dgX1_readOperand_0.1
theorem dX1_readOperand_1 : decode cX1_readOperand 1 = .ok (.getfield 108, 3) := dgX1_readOperand_0.2.1
theorem dX1_readOperand_4 : decode cX1_readOperand 4 = .ok (.ifCond .eq 14, 3) := dgX1_readOperand_0.2.2.1
theorem dX1_readOperand_7 : decode cX1_readOperand 7 = .ok (.aload_n 0, 1) := dgX1_readOperand_0.2.2.2.1
theorem dX1_readOperand_8 : decode cX1_readOperand 8 = .ok (.aload_n 0, 1) := dgX1_readOperand_0.2.2.2.2.1
theorem dX1_readOperand_9 : decode cX1_readOperand 9 = .ok (.getfield 35, 3) := dgX1_readOperand_0.2.2.2.2.2.1
theorem dX1_readOperand_12 : decode cX1_readOperand 12 = .ok (.putfield 39, 3) := dgX1_readOperand_0.2.2.2.2.2.2.1
theorem dX1_readOperand_15 : decode cX1_readOperand 15 = .ok (.goto 113, 3) := dgX1_readOperand_0.2.2.2.2.2.2.2.1
theorem dX1_readOperand_18 : decode cX1_readOperand 18 = .ok (.aload_n 0, 1) := dgX1_readOperand_0.2.2.2.2.2.2.2.2.1
theorem dX1_readOperand_19 : decode cX1_readOperand 19 = .ok (.getfield 55, 3) := dgX1_readOperand_0.2.2.2.2.2.2.2.2.2.1
theorem dX1_readOperand_22 : decode cX1_readOperand 22 = .ok (.iconst 2, 1) := dgX1_readOperand_0.2.2.2.2.2.2.2.2.2.2.1
theorem dX1_readOperand_23 : decode cX1_readOperand 23 = .ok (.if_icmp .ne 42, 3) := dgX1_readOperand_0.2.2.2.2.2.2.2.2.2.2.2.1
theorem dX1_readOperand_26 : decode cX1_readOperand 26 = .ok (.aload_n 0, 1) := dgX1_readOperand_0.2.2.2.2.2.2.2.2.2.2.2.2.1
theorem dX1_readOperand_27 : decode cX1_readOperand 27 = .ok (.getfield 75, 3) := dgX1_readOperand_0.2.2.2.2.2.2.2.2.2.2.2.2.2.1
theorem dX1_readOperand_30 : decode cX1_readOperand 30 = .ok (.aload_n 0, 1) := dgX1_readOperand_0.2.2.2.2.2.2.2.2.2.2.2.2.2.2.1
theorem dX1_readOperand_31 : decode cX1_readOperand 31 = .ok (.getfield 35, 3) := dgX1_readOperand_0.2.2.2.2.2.2.2.2.2.2.2.2.2.2.2
theorem dgX1_readOperand_1 : decode cX1_readOperand 34 = .ok (.isub, 1) ∧ decode cX1_readOperand 35 = .ok (.iconst 4, 1) ∧ decode cX1_readOperand 36 = .ok (.if_icmp .gt 29, 3) ∧ decode cX1_readOperand 39 = .ok (.aload_n 0, 1) ∧ decode cX1_readOperand 40 = .ok (.iconst 0, 1) ∧ decode cX1_readOperand 41 = .ok (.aload_n 0, 1) ∧ decode cX1_readOperand 42 = .ok (.invokevirtual 131, 3) ∧ decode cX1_readOperand 45 = .ok (.invokevirtual 122, 3) ∧ decode cX1_readOperand 48 = .ok (.aload_n 0, 1) ∧ decode cX1_readOperand 49 = .ok (.dup, 1) ∧ decode cX1_readOperand 50 = .ok (.getfield 60, 3) ∧ decode cX1_readOperand 53 = .ok (.iconst 1, 1) ∧ decode cX1_readOperand 54 = .ok (.iadd, 1) ∧ decode cX1_readOperand 55 = .ok (.putfield 60, 3) ∧ decode cX1_readOperand 58 = .ok (.aload_n 0, 1) ∧ decode cX1_readOperand 59 = .ok (.invokevirtual 48, 3) := by decide +kernel
theorem dX1_readOperand_34 : decode cX1_readOperand 34 = .ok (.isub, 1) := dgX1_readOperand_1.1
theorem dX1_readOperand_35 : decode cX1_readOperand 35 = .ok (.iconst 4, 1) := dgX1_readOperand_1.2.1
theorem dX1_readOperand_36 : decode cX1_readOperand 36 = .ok (.if_icmp .gt 29, 3) := dgX1_readOperand_1.2.2.1
theorem dX1_readOperand_39 : decode cX1_readOperand 39 = .ok (.aload_n 0, 1) := dgX1_readOperand_1.2.2.2.1
theorem dX1_readOperand_40 : decode cX1_readOperand 40 = .ok (.iconst 0, 1) := dgX1_readOperand_1.2.2.2.2.1
theorem dX1_readOperand_41 : decode cX1_readOperand 41 = .ok (.aload_n 0, 1) := dgX1_readOperand_1.2.2.2.2.2.1
theorem dX1_readOperand_42 : decode cX1_readOperand 42 = .ok (.invokevirtual 131, 3) := dgX1_readOperand_1.2.2.2.2.2.2.1
theorem dX1_readOperand_45 : decode cX1_readOperand 45 = .ok (.invokevirtual 122, 3) := dgX1_readOperand_1.2.2.2.2.2.2.2.1
theorem dX1_readOperand_48 : decode cX1_readOperand 48 = .ok (.aload_n 0, 1) := dgX1_readOperand_1.2.2.2.2.2.2.2.2.1
theorem dX1_readOperand_49 : decode cX1_readOperand 49 = .ok (.dup, 1) := dgX1_readOperand_1.2.2.2.2.2.2.2.2.2.1
theorem dX1_readOperand_50 : decode cX1_readOperand 50 = .ok (.getfield 60, 3) := dgX1_readOperand_1.2.2.2.2.2.2.2.2.2.2.1
theorem dX1_readOperand_53 : decode cX1_readOperand 53 = .ok (.iconst 1, 1) := dgX1_readOperand_1.2.2.2.2.2.2.2.2.2.2.2.1
theorem dX1_readOperand_54 : decode cX1_readOperand 54 = .ok (.iadd, 1) := dgX1_readOperand_1.2.2.2.2.2.2.2.2.2.2.2.2.1
theorem dX1_readOperand_55 : decode cX1_readOperand 55 = .ok (.putfield 60, 3) := dgX1_readOperand_1.2.2.2.2.2.2.2.2.2.2.2.2.2.1
theorem dX1_readOperand_58 : decode cX1_readOperand 58 = .ok (.aload_n 0, 1) := dgX1_readOperand_1.2.2.2.2.2.2.2.2.2.2.2.2.2.2.1
theorem dX1_readOperand_59 : decode cX1_readOperand 59 = .ok (.invokevirtual 48, 3) := dgX1_readOperand_1.2.2.2.2.2.2.2.2.2.2.2.2.2.2.2
theorem dgX1_readOperand_2 : decode cX1_readOperand 62 = .ok (.goto 66, 3) ∧ decode cX1_readOperand 65 = .ok (.aload_n 0, 1) ∧ decode cX1_readOperand 66 = .ok (.getfield 55, 3) ∧ decode cX1_readOperand 69 = .ok (.iconst 1, 1) ∧ decode cX1_readOperand 70 = .ok (.if_icmp .ne 50, 3) ∧ decode cX1_readOperand 73 = .ok (.aload_n 0, 1) ∧ decode cX1_readOperand 74 = .ok (.getfield 75, 3) ∧ decode cX1_readOperand 77 = .ok (.aload_n 0, 1) ∧ decode cX1_readOperand 78 = .ok (.getfield 35, 3) ∧ decode cX1_readOperand 81 = .ok (.isub, 1) ∧ decode cX1_readOperand 82 = .ok (.iconst 1, 1) ∧ decode cX1_readOperand 83 = .ok (.if_icmp .ne 37, 3) ∧ decode cX1_readOperand 86 = .ok (.aload_n 0, 1) ∧ decode cX1_readOperand 87 = .ok (.invokevirtual 134, 3) ∧ decode cX1_readOperand 90 = .ok (.iconst (-1), 1) ∧ decode cX1_readOperand 91 = .ok (.if_icmp .eq 29, 3) := by decide +kernel
theorem dX1_readOperand_62 : decode cX1_readOperand 62 = .ok (.goto 66, 3) := dgX1_readOperand_2.1
theorem dX1_readOperand_65 : decode cX1_readOperand 65 = .ok (.aload_n 0, 1) := dgX1_readOperand_2.2.1
theorem dX1_readOperand_66 : decode cX1_readOperand 66 = .ok (.getfield 55, 3) := dgX1_readOperand_2.2.2.1
theorem dX1_readOperand_69 : decode cX1_readOperand 69 = .ok (.iconst 1, 1) := dgX1_readOperand_2.2.2.2.1
theorem dX1_readOperand_70 : decode cX1_readOperand 70 = .ok (.if_icmp .ne 50, 3) := dgX1_readOperand_2.2.2.2.2.1
theorem dX1_readOperand_73 : decode cX1_readOperand 73 = .ok (.aload_n 0, 1) := dgX1_readOperand_2.2.2.2.2.2.1
theorem dX1_readOperand_74 : decode cX1_readOperand 74 = .ok (.getfield 75, 3) := dgX1_readOperand_2.2.2.2.2.2.2.1
theorem dX1_readOperand_77 : decode cX1_readOperand 77 = .ok (.aload_n 0, 1) := dgX1_readOperand_2.2.2.2.2.2.2.2.1
theorem dX1_readOperand_78 : decode cX1_readOperand 78 = .ok (.getfield 35, 3) := dgX1_readOperand_2.2.2.2.2.2.2.2.2.1
theorem dX1_readOperand_81 : decode cX1_readOperand 81 = .ok (.isub, 1) := dgX1_readOperand_2.2.2.2.2.2.2.2.2.2.1
theorem dX1_readOperand_82 : decode cX1_readOperand 82 = .ok (.iconst 1, 1) := dgX1_readOperand_2.2.2.2.2.2.2.2.2.2.2.1
theorem dX1_readOperand_83 : decode cX1_readOperand 83 = .ok (.if_icmp .ne 37, 3) := dgX1_readOperand_2.2.2.2.2.2.2.2.2.2.2.2.1
theorem dX1_readOperand_86 : decode cX1_readOperand 86 = .ok (.aload_n 0, 1) := dgX1_readOperand_2.2.2.2.2.2.2.2.2.2.2.2.2.1
theorem dX1_readOperand_87 : decode cX1_readOperand 87 = .ok (.invokevirtual 134, 3) := dgX1_readOperand_2.2.2.2.2.2.2.2.2.2.2.2.2.2.1
theorem dX1_readOperand_90 : decode cX1_readOperand 90 = .ok (.iconst (-1), 1) := dgX1_readOperand_2.2.2.2.2.2.2.2.2.2.2.2.2.2.2.1
theorem dX1_readOperand_91 : decode cX1_readOperand 91 = .ok (.if_icmp .eq 29, 3) := dgX1_readOperand_2.2.2.2.2.2.2.2.2.2.2.2.2.2.2.2
theorem dgX1_readOperand_3 : decode cX1_readOperand 94 = .ok (.aload_n 0, 1) ∧ decode cX1_readOperand 95 = .ok (.iconst 1, 1) ∧ decode cX1_readOperand 96 = .ok (.aload_n 0, 1) ∧ decode cX1_readOperand 97 = .ok (.invokevirtual 134, 3) ∧ decode cX1_readOperand 100 = .ok (.invokevirtual 122, 3) ∧ decode cX1_readOperand 103 = .ok (.aload_n 0, 1) ∧ decode cX1_readOperand 104 = .ok (.dup, 1) ∧ decode cX1_readOperand 105 = .ok (.getfield 60, 3) ∧ decode cX1_readOperand 108 = .ok (.iconst 1, 1) ∧ decode cX1_readOperand 109 = .ok (.iadd, 1) ∧ decode cX1_readOperand 110 = .ok (.putfield 60, 3) ∧ decode cX1_readOperand 113 = .ok (.aload_n 0, 1) ∧ decode cX1_readOperand 114 = .ok (.invokevirtual 48, 3) ∧ decode cX1_readOperand 117 = .ok (.goto 11, 3) ∧ decode cX1_readOperand 120 = .ok (.aload_n 0, 1) ∧ decode cX1_readOperand 121 = .ok (.aload_n 0, 1) := by decide +kernel
theorem dX1_readOperand_94 : decode cX1_readOperand 94 = .ok (.aload_n 0, 1) := dgX1_readOperand_3.1
theorem dX1_readOperand_95 : decode cX1_readOperand 95 = .ok (.iconst 1, 1) := dgX1_readOperand_3.2.1
theorem dX1_readOperand_96 : decode cX1_readOperand 96 = .ok (.aload_n 0, 1) := dgX1_readOperand_3.2.2.1
theorem dX1_readOperand_97 : decode cX1_readOperand 97 = .ok (.invokevirtual 134, 3) := dgX1_readOperand_3.2.2.2.1
theorem dX1_readOperand_100 : decode cX1_readOperand 100 = .ok (.invokevirtual 122, 3) := dgX1_readOperand_3.2.2.2.2.1
theorem dX1_readOperand_103 : decode cX1_readOperand 103 = .ok (.aload_n 0, 1) := dgX1_readOperand_3.2.2.2.2.2.1
theorem dX1_readOperand_104 : decode cX1_readOperand 104 = .ok (.dup, 1) := dgX1_readOperand_3.2.2.2.2.2.2.1
theorem dX1_readOperand_105 : decode cX1_readOperand 105 = .ok (.getfield 60, 3) := dgX1_readOperand_3.2.2.2.2.2.2.2.1
theorem dX1_readOperand_108 : decode cX1_readOperand 108 = .ok (.iconst 1, 1) := dgX1_readOperand_3.2.2.2.2.2.2.2.2.1
theorem dX1_readOperand_109 : decode cX1_readOperand 109 = .ok (.iadd, 1) := dgX1_readOperand_3.2.2.2.2.2.2.2.2.2.1
theorem dX1_readOperand_110 : decode cX1_readOperand 110 = .ok (.putfield 60, 3) := dgX1_readOperand_3.2.2.2.2.2.2.2.2.2.2.1
theorem dX1_readOperand_113 : decode cX1_readOperand 113 = .ok (.aload_n 0, 1) := dgX1_readOperand_3.2.2.2.2.2.2.2.2.2.2.2.1
theorem dX1_readOperand_114 : decode cX1_readOperand 114 = .ok (.invokevirtual 48, 3) := dgX1_readOperand_3.2.2.2.2.2.2.2.2.2.2.2.2.1
theorem dX1_readOperand_117 : decode cX1_readOperand 117 = .ok (.goto 11, 3) := dgX1_readOperand_3.2.2.2.2.2.2.2.2.2.2.2.2.2.1
theorem dX1_readOperand_120 : decode cX1_readOperand 120 = .ok (.aload_n 0, 1) := dgX1_readOperand_3.2.2.2.2.2.2.2.2.2.2.2.2.2.2.1
theorem dX1_readOperand_121 : decode cX1_readOperand 121 = .ok (.aload_n 0, 1) := dgX1_readOperand_3.2.2.2.2.2.2.2.2.2.2.2.2.2.2.2
theorem dgX1_readOperand_4 : decode cX1_readOperand 122 = .ok (.getfield 35, 3) ∧ decode cX1_readOperand 125 = .ok (.putfield 39, 3) ∧ decode cX1_readOperand 128 = .ok (.return_, 1) := by decide +kernel
theorem dX1_readOperand_122 : decode cX1_readOperand 122 = .ok (.getfield 35, 3) := dgX1_readOperand_4.1
theorem dX1_readOperand_125 : decode cX1_readOperand 125 = .ok (.putfield 39, 3) := dgX1_readOperand_4.2.1
theorem dX1_readOperand_128 : decode cX1_readOperand 128 = .ok (.return_, 1) := dgX1_readOperand_4.2.2
abbrev pX1_readOperand : List Nat := [0, 18, 65, 120, 128]
def bX1_readOperand_0 (cal : ab_F) : ab_K := o_aload 0 <| o_getf 0 10 <| o_if (fun x => decide (x = 0)) 1 <| o_aload 0 <| o_aload 0 <| o_getf 0 8 <| o_putI 0 0 <| o_goto 4
def bX1_readOperand_1 (cal : ab_F) : ab_K := o_aload 0 <| o_getf 0 7 <| o_push (.int 2) <| o_cmp (fun x y => decide (¬ x = y)) 2 <| o_aload 0 <| o_getf 0 9 <| o_aload 0 <| o_getf 0 8 <| o_bin (fun x y => x - y) <| o_push (.int 4) <| o_cmp (fun x y => decide (y < x)) 2 <| o_aload 0 <| o_push (.int 0) <| o_aload 0 <| o_callV cal 17 0 0 <| o_callV cal 19 2 0 <| o_aload 0 <| o_dup <| o_getf 0 5 <| o_push (.int 1) <| o_bin (fun x y => x + y) <| o_putI 0 5 <| o_aload 0 <| o_callV cal 9 0 0 <| o_goto 4
def bX1_readOperand_2 (cal : ab_F) : ab_K := o_aload 0 <| o_getf 0 7 <| o_push (.int 1) <| o_cmp (fun x y => decide (¬ x = y)) 3 <| o_aload 0 <| o_getf 0 9 <| o_aload 0 <| o_getf 0 8 <| o_bin (fun x y => x - y) <| o_push (.int 1) <| o_cmp (fun x y => decide (¬ x = y)) 3 <| o_aload 0 <| o_callV cal 18 0 0 <| o_push (.int (-1)) <| o_cmp (fun x y => decide (x = y)) 3 <| o_aload 0 <| o_push (.int 1) <| o_aload 0 <| o_callV cal 18 0 0 <| o_callV cal 19 2 0 <| o_aload 0 <| o_dup <| o_getf 0 5 <| o_push (.int 1) <| o_bin (fun x y => x + y) <| o_putI 0 5 <| o_aload 0 <| o_callV cal 9 0 0 <| o_goto 4
def bX1_readOperand_3 (cal : ab_F) : ab_K := o_aload 0 <| o_aload 0 <| o_getf 0 8 <| o_putI 0 0 <| o_goto 4
def bX1_readOperand_4 (cal : ab_F) : ab_K := o_ret none
def bX1_readOperand (cal : ab_F) : List ab_K := [bX1_readOperand_0 cal, bX1_readOperand_1 cal, bX1_readOperand_2 cal, bX1_readOperand_3 cal, bX1_readOperand_4 cal]
set_option maxRecDepth 100000 in
theorem sX1_readOperand_0 {G : ab_G} {xs : List Int32} {d : Nat} {cal : ab_F} (hcs : ab_CS G (ab_Z G xs) ab_Mf cal d) : ab_Sd G (ab_Z G xs) (d + 1) (ab_mY mX1_readOperand pX1_readOperand) 0 (bX1_readOperand_0 cal) :=
  sn_aload_n dX1_readOperand_0 rfl <| sn_getf dX1_readOperand_1 rfl hinX1 (by decide) w_207 <| sn_if_eq (tg := 18) dX1_readOperand_4 rfl rfl <| sn_aload_n dX1_readOperand_7 rfl <| sn_aload_n dX1_readOperand_8 rfl <| sn_getf dX1_readOperand_9 rfl hinX1 (by decide) w_205 <| sn_putI tyX1 tyX1_ok nmX1 dX1_readOperand_12 rfl hinX1 (by decide) w_196 (Or.inl rfl) (tyX1_ok 0 (by decide)) <| sn_goto (tg := 128) dX1_readOperand_15 rfl rfl
set_option maxRecDepth 100000 in
theorem sX1_readOperand_1 {G : ab_G} {xs : List Int32} {d : Nat} {cal : ab_F} (hcs : ab_CS G (ab_Z G xs) ab_Mf cal d) : ab_Sd G (ab_Z G xs) (d + 1) (ab_mY mX1_readOperand pX1_readOperand) 18 (bX1_readOperand_1 cal) :=
  sn_aload_n dX1_readOperand_18 rfl <| sn_getf dX1_readOperand_19 rfl hinX1 (by decide) w_204 <| sn_iconst dX1_readOperand_22 rfl <| sn_cmp_ne (tg := 65) dX1_readOperand_23 rfl rfl <| sn_aload_n dX1_readOperand_26 rfl <| sn_getf dX1_readOperand_27 rfl hinX1 (by decide) w_206 <| sn_aload_n dX1_readOperand_30 rfl <| sn_getf dX1_readOperand_31 rfl hinX1 (by decide) w_205 <| sn_isub dX1_readOperand_34 <| sn_iconst dX1_readOperand_35 rfl <| sn_cmp_gt (tg := 65) dX1_readOperand_36 rfl rfl <| sn_aload_n dX1_readOperand_39 rfl <| sn_iconst dX1_readOperand_40 rfl <| sn_aload_n dX1_readOperand_41 rfl <| sq_callV mt_17 hcs dX1_readOperand_42 rfl w_771 w_773 w_13 w_60 w_774 hy_17 hm_17 <| sq_callV mt_19 hcs dX1_readOperand_45 rfl w_759 w_761 w_10 w_60 w_762 hy_19 hm_19 <| sn_aload_n dX1_readOperand_48 rfl <| sn_dup dX1_readOperand_49 <| sn_getf dX1_readOperand_50 rfl hinX1 (by decide) w_202 <| sn_iconst dX1_readOperand_53 rfl <| sn_iadd dX1_readOperand_54 <| sn_putI tyX1 tyX1_ok nmX1 dX1_readOperand_55 rfl hinX1 (by decide) w_202 (Or.inl rfl) (tyX1_ok 5 (by decide)) <| sn_aload_n dX1_readOperand_58 rfl <| sq_callV mt_9 hcs dX1_readOperand_59 rfl w_677 w_679 w_3 w_60 w_680 hy_9 hm_9 <| sn_goto (tg := 128) dX1_readOperand_62 rfl rfl
set_option maxRecDepth 100000 in
theorem sX1_readOperand_2 {G : ab_G} {xs : List Int32} {d : Nat} {cal : ab_F} (hcs : ab_CS G (ab_Z G xs) ab_Mf cal d) : ab_Sd G (ab_Z G xs) (d + 1) (ab_mY mX1_readOperand pX1_readOperand) 65 (bX1_readOperand_2 cal) :=
  sn_aload_n dX1_readOperand_65 rfl <| sn_getf dX1_readOperand_66 rfl hinX1 (by decide) w_204 <| sn_iconst dX1_readOperand_69 rfl <| sn_cmp_ne (tg := 120) dX1_readOperand_70 rfl rfl <| sn_aload_n dX1_readOperand_73 rfl <| sn_getf dX1_readOperand_74 rfl hinX1 (by decide) w_206 <| sn_aload_n dX1_readOperand_77 rfl <| sn_getf dX1_readOperand_78 rfl hinX1 (by decide) w_205 <| sn_isub dX1_readOperand_81 <| sn_iconst dX1_readOperand_82 rfl <| sn_cmp_ne (tg := 120) dX1_readOperand_83 rfl rfl <| sn_aload_n dX1_readOperand_86 rfl <| sq_callV mt_18 hcs dX1_readOperand_87 rfl w_775 w_777 w_14 w_60 w_778 hy_18 hm_18 <| sn_iconst dX1_readOperand_90 rfl <| sn_cmp_eq (tg := 120) dX1_readOperand_91 rfl rfl <| sn_aload_n dX1_readOperand_94 rfl <| sn_iconst dX1_readOperand_95 rfl <| sn_aload_n dX1_readOperand_96 rfl <| sq_callV mt_18 hcs dX1_readOperand_97 rfl w_775 w_777 w_14 w_60 w_778 hy_18 hm_18 <| sq_callV mt_19 hcs dX1_readOperand_100 rfl w_759 w_761 w_10 w_60 w_762 hy_19 hm_19 <| sn_aload_n dX1_readOperand_103 rfl <| sn_dup dX1_readOperand_104 <| sn_getf dX1_readOperand_105 rfl hinX1 (by decide) w_202 <| sn_iconst dX1_readOperand_108 rfl <| sn_iadd dX1_readOperand_109 <| sn_putI tyX1 tyX1_ok nmX1 dX1_readOperand_110 rfl hinX1 (by decide) w_202 (Or.inl rfl) (tyX1_ok 5 (by decide)) <| sn_aload_n dX1_readOperand_113 rfl <| sq_callV mt_9 hcs dX1_readOperand_114 rfl w_677 w_679 w_3 w_60 w_680 hy_9 hm_9 <| sn_goto (tg := 128) dX1_readOperand_117 rfl rfl
set_option maxRecDepth 100000 in
theorem sX1_readOperand_3 {G : ab_G} {xs : List Int32} {d : Nat} {cal : ab_F} (hcs : ab_CS G (ab_Z G xs) ab_Mf cal d) : ab_Sd G (ab_Z G xs) (d + 1) (ab_mY mX1_readOperand pX1_readOperand) 120 (bX1_readOperand_3 cal) :=
  sn_aload_n dX1_readOperand_120 rfl <| sn_aload_n dX1_readOperand_121 rfl <| sn_getf dX1_readOperand_122 rfl hinX1 (by decide) w_205 <| sn_putI tyX1 tyX1_ok nmX1 dX1_readOperand_125 rfl hinX1 (by decide) w_196 (Or.inl rfl) (tyX1_ok 0 (by decide)) <| sn_next rfl
set_option maxRecDepth 100000 in
theorem sX1_readOperand_4 {G : ab_G} {xs : List Int32} {d : Nat} {cal : ab_F} (hcs : ab_CS G (ab_Z G xs) ab_Mf cal d) : ab_Sd G (ab_Z G xs) (d + 1) (ab_mY mX1_readOperand pX1_readOperand) 128 (bX1_readOperand_4 cal) :=
  sn_ret dX1_readOperand_128 ab_ri_void
theorem sX1_readOperand {G : ab_G} {xs : List Int32} {d : Nat} {cal : ab_F} (hcs : ab_CS G (ab_Z G xs) ab_Mf cal d) : ab_BS G (ab_Z G xs) (d + 1) (ab_mY mX1_readOperand pX1_readOperand) pX1_readOperand (bX1_readOperand cal) := ⟨sX1_readOperand_0 hcs, sX1_readOperand_1 hcs, sX1_readOperand_2 hcs, sX1_readOperand_3 hcs, sX1_readOperand_4 hcs, trivial⟩
theorem dgX1_numberAtHand_0 : decode cX1_numberAtHand 0 = .ok (.iconst 0, 1) ∧ decode cX1_numberAtHand 1 = .ok (.istore_n 1, 1) ∧ decode cX1_numberAtHand 2 = .ok (.aload_n 0, 1) ∧ decode cX1_numberAtHand 3 = .ok (.getfield 35, 3) ∧ decode cX1_numberAtHand 6 = .ok (.istore_n 2, 1) ∧ decode cX1_numberAtHand 7 = .ok (.iload_n 2, 1) ∧ decode cX1_numberAtHand 8 = .ok (.aload_n 0, 1) ∧ decode cX1_numberAtHand 9 = .ok (.getfield 75, 3) ∧ decode cX1_numberAtHand 12 = .ok (.if_icmp .ge 27, 3) ∧ decode cX1_numberAtHand 15 = .ok (.bipush 10, 2) ∧ decode cX1_numberAtHand 17 = .ok (.iload_n 1, 1) ∧ decode cX1_numberAtHand 18 = .ok (.imul, 1) ∧ decode cX1_numberAtHand 19 = .ok (.aload_n 0, 1) ∧ decode cX1_numberAtHand 20 = .ok (.getfield 24, 3) ∧ decode cX1_numberAtHand 23 = .ok (.getfield 92, 3) ∧ decode cX1_numberAtHand 26 = .ok (.iload_n 2, 1) := by decide +kernel
theorem dX1_numberAtHand_0 : decode cX1_numberAtHand 0 = .ok (.iconst 0, 1) := dgX1_numberAtHand_0.1
theorem dX1_numberAtHand_1 : decode cX1_numberAtHand 1 = .ok (.istore_n 1, 1) := dgX1_numberAtHand_0.2.1
theorem dX1_numberAtHand_2 : decode cX1_numberAtHand 2 = .ok (.aload_n 0, 1) := dgX1_numberAtHand_0.2.2.1
theorem dX1_numberAtHand_3 : decode cX1_numberAtHand 3 = .ok (.getfield 35, 3) := dgX1_numberAtHand_0.2.2.2.1
theorem dX1_numberAtHand_6 : decode cX1_numberAtHand 6 = .ok (.istore_n 2, 1) := dgX1_numberAtHand_0.2.2.2.2.1
theorem dX1_numberAtHand_7 : decode cX1_numberAtHand 7 = .ok (.iload_n 2, 1) := dgX1_numberAtHand_0.2.2.2.2.2.1
theorem dX1_numberAtHand_8 : decode cX1_numberAtHand 8 = .ok (.aload_n 0, 1) := dgX1_numberAtHand_0.2.2.2.2.2.2.1
theorem dX1_numberAtHand_9 : decode cX1_numberAtHand 9 = .ok (.getfield 75, 3) := dgX1_numberAtHand_0.2.2.2.2.2.2.2.1
theorem dX1_numberAtHand_12 : decode cX1_numberAtHand 12 = .ok (.if_icmp .ge 27, 3) := dgX1_numberAtHand_0.2.2.2.2.2.2.2.2.1
theorem dX1_numberAtHand_15 : decode cX1_numberAtHand 15 = .ok (.bipush 10, 2) := dgX1_numberAtHand_0.2.2.2.2.2.2.2.2.2.1
theorem dX1_numberAtHand_17 : decode cX1_numberAtHand 17 = .ok (.iload_n 1, 1) := dgX1_numberAtHand_0.2.2.2.2.2.2.2.2.2.2.1
theorem dX1_numberAtHand_18 : decode cX1_numberAtHand 18 = .ok (.imul, 1) := dgX1_numberAtHand_0.2.2.2.2.2.2.2.2.2.2.2.1
theorem dX1_numberAtHand_19 : decode cX1_numberAtHand 19 = .ok (.aload_n 0, 1) := dgX1_numberAtHand_0.2.2.2.2.2.2.2.2.2.2.2.2.1
theorem dX1_numberAtHand_20 : decode cX1_numberAtHand 20 = .ok (.getfield 24, 3) := dgX1_numberAtHand_0.2.2.2.2.2.2.2.2.2.2.2.2.2.1
theorem dX1_numberAtHand_23 : decode cX1_numberAtHand 23 = .ok (.getfield 92, 3) := dgX1_numberAtHand_0.2.2.2.2.2.2.2.2.2.2.2.2.2.2.1
theorem dX1_numberAtHand_26 : decode cX1_numberAtHand 26 = .ok (.iload_n 2, 1) := dgX1_numberAtHand_0.2.2.2.2.2.2.2.2.2.2.2.2.2.2.2
theorem dgX1_numberAtHand_1 : decode cX1_numberAtHand 27 = .ok (.iaload, 1) ∧ decode cX1_numberAtHand 28 = .ok (.iadd, 1) ∧ decode cX1_numberAtHand 29 = .ok (.bipush 48, 2) ∧ decode cX1_numberAtHand 31 = .ok (.isub, 1) ∧ decode cX1_numberAtHand 32 = .ok (.istore_n 1, 1) ∧ decode cX1_numberAtHand 33 = .ok (.iinc 2 1, 3) ∧ decode cX1_numberAtHand 36 = .ok (.goto (-29), 3) ∧ decode cX1_numberAtHand 39 = .ok (.iload_n 1, 1) ∧ decode cX1_numberAtHand 40 = .ok (.ireturn, 1) := by decide +kernel
theorem dX1_numberAtHand_27 : decode cX1_numberAtHand 27 = .ok (.iaload, 1) := dgX1_numberAtHand_1.1
theorem dX1_numberAtHand_28 : decode cX1_numberAtHand 28 = .ok (.iadd, 1) := dgX1_numberAtHand_1.2.1
theorem dX1_numberAtHand_29 : decode cX1_numberAtHand 29 = .ok (.bipush 48, 2) := dgX1_numberAtHand_1.2.2.1
theorem dX1_numberAtHand_31 : decode cX1_numberAtHand 31 = .ok (.isub, 1) := dgX1_numberAtHand_1.2.2.2.1
theorem dX1_numberAtHand_32 : decode cX1_numberAtHand 32 = .ok (.istore_n 1, 1) := dgX1_numberAtHand_1.2.2.2.2.1
theorem dX1_numberAtHand_33 : decode cX1_numberAtHand 33 = .ok (.iinc 2 1, 3) := dgX1_numberAtHand_1.2.2.2.2.2.1
theorem dX1_numberAtHand_36 : decode cX1_numberAtHand 36 = .ok (.goto (-29), 3) := dgX1_numberAtHand_1.2.2.2.2.2.2.1
theorem dX1_numberAtHand_39 : decode cX1_numberAtHand 39 = .ok (.iload_n 1, 1) := dgX1_numberAtHand_1.2.2.2.2.2.2.2.1
theorem dX1_numberAtHand_40 : decode cX1_numberAtHand 40 = .ok (.ireturn, 1) := dgX1_numberAtHand_1.2.2.2.2.2.2.2.2
abbrev pX1_numberAtHand : List Nat := [0, 7, 39]
def bX1_numberAtHand_0 (cal : ab_F) : ab_K := o_push (.int 0) <| o_istore 1 <| o_aload 0 <| o_getf 0 8 <| o_istore 2 <| o_goto 1
def bX1_numberAtHand_1 (cal : ab_F) : ab_K := o_iload 2 <| o_aload 0 <| o_getf 0 9 <| o_cmp (fun x y => decide (y ≤ x)) 2 <| o_push (.int 10) <| o_iload 1 <| o_bin (fun x y => x * y) <| o_aload 0 <| o_getf 0 1 <| o_getf 4 0 <| o_iload 2 <| o_iald 0 <| o_bin (fun x y => x + y) <| o_push (.int 48) <| o_bin (fun x y => x - y) <| o_istore 1 <| o_iinc 2 1 <| o_goto 1
def bX1_numberAtHand_2 (cal : ab_F) : ab_K := o_iload 1 <| o_ret (some .int)
def bX1_numberAtHand (cal : ab_F) : List ab_K := [bX1_numberAtHand_0 cal, bX1_numberAtHand_1 cal, bX1_numberAtHand_2 cal]
set_option maxRecDepth 100000 in
theorem sX1_numberAtHand_0 {G : ab_G} {xs : List Int32} {d : Nat} {cal : ab_F} (hcs : ab_CS G (ab_Z G xs) ab_Mf cal d) : ab_Sd G (ab_Z G xs) (d + 1) (ab_mY mX1_numberAtHand pX1_numberAtHand) 0 (bX1_numberAtHand_0 cal) :=
  sn_iconst dX1_numberAtHand_0 rfl <| sn_istore_n dX1_numberAtHand_1 rfl (by decide) <| sn_aload_n dX1_numberAtHand_2 rfl <| sn_getf dX1_numberAtHand_3 rfl hinX1 (by decide) w_205 <| sn_istore_n dX1_numberAtHand_6 rfl (by decide) <| sn_next rfl
set_option maxRecDepth 100000 in
theorem sX1_numberAtHand_1 {G : ab_G} {xs : List Int32} {d : Nat} {cal : ab_F} (hcs : ab_CS G (ab_Z G xs) ab_Mf cal d) : ab_Sd G (ab_Z G xs) (d + 1) (ab_mY mX1_numberAtHand pX1_numberAtHand) 7 (bX1_numberAtHand_1 cal) :=
  sn_iload_n dX1_numberAtHand_7 rfl <| sn_aload_n dX1_numberAtHand_8 rfl <| sn_getf dX1_numberAtHand_9 rfl hinX1 (by decide) w_206 <| sn_cmp_ge (tg := 39) dX1_numberAtHand_12 rfl rfl <| sn_bipush dX1_numberAtHand_15 rfl <| sn_iload_n dX1_numberAtHand_17 rfl <| sn_imul dX1_numberAtHand_18 <| sn_aload_n dX1_numberAtHand_19 rfl <| sn_getf dX1_numberAtHand_20 rfl hinX1 (by decide) w_198 <| sn_getf dX1_numberAtHand_23 rfl hinX5 (by decide) w_180 <| sn_iload_n dX1_numberAtHand_26 rfl <| sn_iald dX1_numberAtHand_27 rfl <| sn_iadd dX1_numberAtHand_28 <| sn_bipush dX1_numberAtHand_29 rfl <| sn_isub dX1_numberAtHand_31 <| sn_istore_n dX1_numberAtHand_32 rfl (by decide) <| sn_iinc dX1_numberAtHand_33 rfl (by decide) <| sn_goto (tg := 7) dX1_numberAtHand_36 rfl rfl
set_option maxRecDepth 100000 in
theorem sX1_numberAtHand_2 {G : ab_G} {xs : List Int32} {d : Nat} {cal : ab_F} (hcs : ab_CS G (ab_Z G xs) ab_Mf cal d) : ab_Sd G (ab_Z G xs) (d + 1) (ab_mY mX1_numberAtHand pX1_numberAtHand) 39 (bX1_numberAtHand_2 cal) :=
  sn_iload_n dX1_numberAtHand_39 rfl <| sn_ret dX1_numberAtHand_40 ab_ri_int
theorem sX1_numberAtHand {G : ab_G} {xs : List Int32} {d : Nat} {cal : ab_F} (hcs : ab_CS G (ab_Z G xs) ab_Mf cal d) : ab_BS G (ab_Z G xs) (d + 1) (ab_mY mX1_numberAtHand pX1_numberAtHand) pX1_numberAtHand (bX1_numberAtHand cal) := ⟨sX1_numberAtHand_0 hcs, sX1_numberAtHand_1 hcs, sX1_numberAtHand_2 hcs, trivial⟩
theorem dgX1_nameAtHand_0 : decode cX1_nameAtHand 0 = .ok (.aload_n 0, 1) ∧ decode cX1_nameAtHand 1 = .ok (.getfield 20, 3) ∧ decode cX1_nameAtHand 4 = .ok (.aload_n 0, 1) ∧ decode cX1_nameAtHand 5 = .ok (.getfield 24, 3) ∧ decode cX1_nameAtHand 8 = .ok (.getfield 92, 3) ∧ decode cX1_nameAtHand 11 = .ok (.aload_n 0, 1) ∧ decode cX1_nameAtHand 12 = .ok (.getfield 35, 3) ∧ decode cX1_nameAtHand 15 = .ok (.iaload, 1) ∧ decode cX1_nameAtHand 16 = .ok (.i2c, 1) ∧ decode cX1_nameAtHand 17 = .ok (.invokevirtual 137, 3) ∧ decode cX1_nameAtHand 20 = .ok (.ireturn, 1) := by decide +kernel
theorem dX1_nameAtHand_0 : decode cX1_nameAtHand 0 = .ok (.aload_n 0, 1) := dgX1_nameAtHand_0.1
theorem dX1_nameAtHand_1 : decode cX1_nameAtHand 1 = .ok (.getfield 20, 3) := dgX1_nameAtHand_0.2.1
theorem dX1_nameAtHand_4 : decode cX1_nameAtHand 4 = .ok (.aload_n 0, 1) := dgX1_nameAtHand_0.2.2.1
theorem dX1_nameAtHand_5 : decode cX1_nameAtHand 5 = .ok (.getfield 24, 3) := dgX1_nameAtHand_0.2.2.2.1
theorem dX1_nameAtHand_8 : decode cX1_nameAtHand 8 = .ok (.getfield 92, 3) := dgX1_nameAtHand_0.2.2.2.2.1
theorem dX1_nameAtHand_11 : decode cX1_nameAtHand 11 = .ok (.aload_n 0, 1) := dgX1_nameAtHand_0.2.2.2.2.2.1
theorem dX1_nameAtHand_12 : decode cX1_nameAtHand 12 = .ok (.getfield 35, 3) := dgX1_nameAtHand_0.2.2.2.2.2.2.1
theorem dX1_nameAtHand_15 : decode cX1_nameAtHand 15 = .ok (.iaload, 1) := dgX1_nameAtHand_0.2.2.2.2.2.2.2.1
theorem dX1_nameAtHand_16 : decode cX1_nameAtHand 16 = .ok (.i2c, 1) := dgX1_nameAtHand_0.2.2.2.2.2.2.2.2.1
theorem dX1_nameAtHand_17 : decode cX1_nameAtHand 17 = .ok (.invokevirtual 137, 3) := dgX1_nameAtHand_0.2.2.2.2.2.2.2.2.2.1
theorem dX1_nameAtHand_20 : decode cX1_nameAtHand 20 = .ok (.ireturn, 1) := dgX1_nameAtHand_0.2.2.2.2.2.2.2.2.2.2
abbrev pX1_nameAtHand : List Nat := [0]
def bX1_nameAtHand_0 (cal : ab_F) : ab_K := o_aload 0 <| o_getf 0 6 <| o_aload 0 <| o_getf 0 1 <| o_getf 4 0 <| o_aload 0 <| o_getf 0 8 <| o_iald 0 <| o_un (fun x => (x.toUInt32 % 65536).toInt32) <| o_callX cal 231 1 <| o_ret (some .int)
def bX1_nameAtHand (cal : ab_F) : List ab_K := [bX1_nameAtHand_0 cal]
set_option maxRecDepth 100000 in
theorem sX1_nameAtHand_0 {G : ab_G} {xs : List Int32} {d : Nat} {cal : ab_F} (hcs : ab_CS G (ab_Z G xs) ab_Mf cal d) : ab_Sd G (ab_Z G xs) (d + 1) (ab_mY mX1_nameAtHand pX1_nameAtHand) 0 (bX1_nameAtHand_0 cal) :=
  sn_aload_n dX1_nameAtHand_0 rfl <| sn_getf dX1_nameAtHand_1 rfl hinX1 (by decide) w_203 <| sn_aload_n dX1_nameAtHand_4 rfl <| sn_getf dX1_nameAtHand_5 rfl hinX1 (by decide) w_198 <| sn_getf dX1_nameAtHand_8 rfl hinX5 (by decide) w_180 <| sn_aload_n dX1_nameAtHand_11 rfl <| sn_getf dX1_nameAtHand_12 rfl hinX1 (by decide) w_205 <| sn_iald dX1_nameAtHand_15 rfl <| sn_i2c dX1_nameAtHand_16 <| sq_callX mt_231 hcs dX1_nameAtHand_17 (fun U h => h.2.2.2.2.2.2.1) w_779 w_780 w_781 w_69 w_782 hy_231 hm_231 <| sn_ret dX1_nameAtHand_20 ab_ri_int
theorem sX1_nameAtHand {G : ab_G} {xs : List Int32} {d : Nat} {cal : ab_F} (hcs : ab_CS G (ab_Z G xs) ab_Mf cal d) : ab_BS G (ab_Z G xs) (d + 1) (ab_mY mX1_nameAtHand pX1_nameAtHand) pX1_nameAtHand (bX1_nameAtHand cal) := ⟨sX1_nameAtHand_0 hcs, trivial⟩
theorem dgX1_emit_0 : decode cX1_emit 0 = .ok (.aload_n 0, 1) ∧ decode cX1_emit 1 = .ok (.getfield 63, 3) ∧ decode cX1_emit 4 = .ok (.bipush 96, 2) ∧ decode cX1_emit 6 = .ok (.if_icmp .ge 33, 3) ∧ decode cX1_emit 9 = .ok (.aload_n 0, 1) ∧ decode cX1_emit 10 = .ok (.getfield 9, 3) ∧ decode cX1_emit 13 = .ok (.aload_n 0, 1) ∧ decode cX1_emit 14 = .ok (.getfield 63, 3) ∧ decode cX1_emit 17 = .ok (.iload_n 1, 1) ∧ decode cX1_emit 18 = .ok (.iastore, 1) ∧ decode cX1_emit 19 = .ok (.aload_n 0, 1) ∧ decode cX1_emit 20 = .ok (.getfield 15, 3) ∧ decode cX1_emit 23 = .ok (.aload_n 0, 1) ∧ decode cX1_emit 24 = .ok (.getfield 63, 3) ∧ decode cX1_emit 27 = .ok (.iload_n 2, 1) ∧ decode cX1_emit 28 = .ok (.iastore, 1) := by decide +kernel
theorem dX1_emit_0 : decode cX1_emit 0 = .ok (.aload_n 0, 1) := dgX1_emit_0.1
theorem dX1_emit_1 : decode cX1_emit 1 = .ok (.getfield 63, 3) := dgX1_emit_0.2.1
theorem dX1_emit_4 : decode cX1_emit 4 = .ok (.bipush 96, 2) := dgX1_emit_0.2.2.1
theorem dX1_emit_6 : decode cX1_emit 6 = .ok (.if_icmp .ge 33, 3) := dgX1_emit_0.2.2.2.1
theorem dX1_emit_9 : decode cX1_emit 9 = .ok (.aload_n 0, 1) := dgX1_emit_0.2.2.2.2.1
theorem dX1_emit_10 : decode cX1_emit 10 = .ok (.getfield 9, 3) := dgX1_emit_0.2.2.2.2.2.1
theorem dX1_emit_13 : decode cX1_emit 13 = .ok (.aload_n 0, 1) := dgX1_emit_0.2.2.2.2.2.2.1
theorem dX1_emit_14 : decode cX1_emit 14 = .ok (.getfield 63, 3) := dgX1_emit_0.2.2.2.2.2.2.2.1
theorem dX1_emit_17 : decode cX1_emit 17 = .ok (.iload_n 1, 1) := dgX1_emit_0.2.2.2.2.2.2.2.2.1
theorem dX1_emit_18 : decode cX1_emit 18 = .ok (.iastore, 1) := dgX1_emit_0.2.2.2.2.2.2.2.2.2.1
theorem dX1_emit_19 : decode cX1_emit 19 = .ok (.aload_n 0, 1) := dgX1_emit_0.2.2.2.2.2.2.2.2.2.2.1
theorem dX1_emit_20 : decode cX1_emit 20 = .ok (.getfield 15, 3) := dgX1_emit_0.2.2.2.2.2.2.2.2.2.2.2.1
theorem dX1_emit_23 : decode cX1_emit 23 = .ok (.aload_n 0, 1) := dgX1_emit_0.2.2.2.2.2.2.2.2.2.2.2.2.1
theorem dX1_emit_24 : decode cX1_emit 24 = .ok (.getfield 63, 3) := dgX1_emit_0.2.2.2.2.2.2.2.2.2.2.2.2.2.1
theorem dX1_emit_27 : decode cX1_emit 27 = .ok (.iload_n 2, 1) := dgX1_emit_0.2.2.2.2.2.2.2.2.2.2.2.2.2.2.1
theorem dX1_emit_28 : decode cX1_emit 28 = .ok (.iastore, 1) := dgX1_emit_0.2.2.2.2.2.2.2.2.2.2.2.2.2.2.2
theorem dgX1_emit_1 : decode cX1_emit 29 = .ok (.aload_n 0, 1) ∧ decode cX1_emit 30 = .ok (.dup, 1) ∧ decode cX1_emit 31 = .ok (.getfield 63, 3) ∧ decode cX1_emit 34 = .ok (.iconst 1, 1) ∧ decode cX1_emit 35 = .ok (.iadd, 1) ∧ decode cX1_emit 36 = .ok (.putfield 63, 3) ∧ decode cX1_emit 39 = .ok (.return_, 1) := by decide +kernel
theorem dX1_emit_29 : decode cX1_emit 29 = .ok (.aload_n 0, 1) := dgX1_emit_1.1
theorem dX1_emit_30 : decode cX1_emit 30 = .ok (.dup, 1) := dgX1_emit_1.2.1
theorem dX1_emit_31 : decode cX1_emit 31 = .ok (.getfield 63, 3) := dgX1_emit_1.2.2.1
theorem dX1_emit_34 : decode cX1_emit 34 = .ok (.iconst 1, 1) := dgX1_emit_1.2.2.2.1
theorem dX1_emit_35 : decode cX1_emit 35 = .ok (.iadd, 1) := dgX1_emit_1.2.2.2.2.1
theorem dX1_emit_36 : decode cX1_emit 36 = .ok (.putfield 63, 3) := dgX1_emit_1.2.2.2.2.2.1
theorem dX1_emit_39 : decode cX1_emit 39 = .ok (.return_, 1) := dgX1_emit_1.2.2.2.2.2.2
abbrev pX1_emit : List Nat := [0, 39]
def bX1_emit_0 (cal : ab_F) : ab_K := o_aload 0 <| o_getf 0 4 <| o_push (.int 96) <| o_cmp (fun x y => decide (y ≤ x)) 1 <| o_aload 0 <| o_getf 0 2 <| o_aload 0 <| o_getf 0 4 <| o_iload 1 <| o_iast 0 (fun x => x) <| o_aload 0 <| o_getf 0 3 <| o_aload 0 <| o_getf 0 4 <| o_iload 2 <| o_iast 0 (fun x => x) <| o_aload 0 <| o_dup <| o_getf 0 4 <| o_push (.int 1) <| o_bin (fun x y => x + y) <| o_putI 0 4 <| o_goto 1
def bX1_emit_1 (cal : ab_F) : ab_K := o_ret none
def bX1_emit (cal : ab_F) : List ab_K := [bX1_emit_0 cal, bX1_emit_1 cal]
set_option maxRecDepth 100000 in
theorem sX1_emit_0 {G : ab_G} {xs : List Int32} {d : Nat} {cal : ab_F} (hcs : ab_CS G (ab_Z G xs) ab_Mf cal d) : ab_Sd G (ab_Z G xs) (d + 1) (ab_mY mX1_emit pX1_emit) 0 (bX1_emit_0 cal) :=
  sn_aload_n dX1_emit_0 rfl <| sn_getf dX1_emit_1 rfl hinX1 (by decide) w_201 <| sn_bipush dX1_emit_4 rfl <| sn_cmp_ge (tg := 39) dX1_emit_6 rfl rfl <| sn_aload_n dX1_emit_9 rfl <| sn_getf dX1_emit_10 rfl hinX1 (by decide) w_199 <| sn_aload_n dX1_emit_13 rfl <| sn_getf dX1_emit_14 rfl hinX1 (by decide) w_201 <| sn_iload_n dX1_emit_17 rfl <| sn_iast dX1_emit_18 rfl rfl <| sn_aload_n dX1_emit_19 rfl <| sn_getf dX1_emit_20 rfl hinX1 (by decide) w_200 <| sn_aload_n dX1_emit_23 rfl <| sn_getf dX1_emit_24 rfl hinX1 (by decide) w_201 <| sn_iload_n dX1_emit_27 rfl <| sn_iast dX1_emit_28 rfl rfl <| sn_aload_n dX1_emit_29 rfl <| sn_dup dX1_emit_30 <| sn_getf dX1_emit_31 rfl hinX1 (by decide) w_201 <| sn_iconst dX1_emit_34 rfl <| sn_iadd dX1_emit_35 <| sn_putI tyX1 tyX1_ok nmX1 dX1_emit_36 rfl hinX1 (by decide) w_201 (Or.inl rfl) (tyX1_ok 4 (by decide)) <| sn_next rfl
set_option maxRecDepth 100000 in
theorem sX1_emit_1 {G : ab_G} {xs : List Int32} {d : Nat} {cal : ab_F} (hcs : ab_CS G (ab_Z G xs) ab_Mf cal d) : ab_Sd G (ab_Z G xs) (d + 1) (ab_mY mX1_emit pX1_emit) 39 (bX1_emit_1 cal) :=
  sn_ret dX1_emit_39 ab_ri_void
theorem sX1_emit {G : ab_G} {xs : List Int32} {d : Nat} {cal : ab_F} (hcs : ab_CS G (ab_Z G xs) ab_Mf cal d) : ab_BS G (ab_Z G xs) (d + 1) (ab_mY mX1_emit pX1_emit) pX1_emit (bX1_emit cal) := ⟨sX1_emit_0 hcs, sX1_emit_1 hcs, trivial⟩
