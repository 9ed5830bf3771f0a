theorem dgX4_init_0 : decode cX4_init 0 = .ok (.aload_n 0, 1) ∧ decode cX4_init 1 = .ok (.invokespecial 3, 3) ∧ decode cX4_init 4 = .ok (.aload_n 0, 1) ∧ decode cX4_init 5 = .ok (.bipush 12, 2) ∧ decode cX4_init 7 = .ok (.newarray .int, 2) ∧ decode cX4_init 9 = .ok (.putfield 9, 3) ∧ decode cX4_init 12 = .ok (.aload_n 0, 1) ∧ decode cX4_init 13 = .ok (.bipush 12, 2) ∧ decode cX4_init 15 = .ok (.newarray .int, 2) ∧ decode cX4_init 17 = .ok (.putfield 15, 3) ∧ decode cX4_init 20 = .ok (.aload_n 0, 1) ∧ decode cX4_init 21 = .ok (.bipush 12, 2) ∧ decode cX4_init 23 = .ok (.newarray .int, 2) ∧ decode cX4_init 25 = .ok (.putfield 18, 3) ∧ decode cX4_init 28 = .ok (.aload_n 0, 1) ∧ decode cX4_init 29 = .ok (.bipush 12, 2) := by decide +kernel
theorem dX4_init_0 : decode cX4_init 0 = .ok (.aload_n 0, 1) := dgX4_init_0.1
theorem dX4_init_1 : decode cX4_init 1 = .ok (.invokespecial 3, 3) := dgX4_init_0.2.1
theorem dX4_init_4 : decode cX4_init 4 = .ok (.aload_n 0, 1) := dgX4_init_0.2.2.1
theorem dX4_init_5 : decode cX4_init 5 = .ok (.bipush 12, 2) := dgX4_init_0.2.2.2.1
theorem dX4_init_7 : decode cX4_init 7 = .ok (.newarray .int, 2) := dgX4_init_0.2.2.2.2.1
theorem dX4_init_9 : decode cX4_init 9 = .ok (.putfield 9, 3) := dgX4_init_0.2.2.2.2.2.1
theorem dX4_init_12 : decode cX4_init 12 = .ok (.aload_n 0, 1) := dgX4_init_0.2.2.2.2.2.2.1
theorem dX4_init_13 : decode cX4_init 13 = .ok (.bipush 12, 2) := dgX4_init_0.2.2.2.2.2.2.2.1
theorem dX4_init_15 : decode cX4_init 15 = .ok (.newarray .int, 2) := dgX4_init_0.2.2.2.2.2.2.2.2.1
theorem dX4_init_17 : decode cX4_init 17 = .ok (.putfield 15, 3) := dgX4_init_0.2.2.2.2.2.2.2.2.2.1
theorem dX4_init_20 : decode cX4_init 20 = .ok (.aload_n 0, 1) := dgX4_init_0.2.2.2.2.2.2.2.2.2.2.1
theorem dX4_init_21 : decode cX4_init 21 = .ok (.bipush 12, 2) := dgX4_init_0.2.2.2.2.2.2.2.2.2.2.2.1
theorem dX4_init_23 : decode cX4_init 23 = .ok (.newarray .int, 2) := dgX4_init_0.2.2.2.2.2.2.2.2.2.2.2.2.1
theorem dX4_init_25 : decode cX4_init 25 = .ok (.putfield 18, 3) := dgX4_init_0.2.2.2.2.2.2.2.2.2.2.2.2.2.1
theorem dX4_init_28 : decode cX4_init 28 = .ok (.aload_n 0, 1) := dgX4_init_0.2.2.2.2.2.2.2.2.2.2.2.2.2.2.1
theorem dX4_init_29 : decode cX4_init 29 = .ok (.bipush 12, 2) := dgX4_init_0.2.2.2.2.2.2.2.2.2.2.2.2.2.2.2
theorem dgX4_init_1 : decode cX4_init 31 = .ok (.newarray .int, 2) ∧ decode cX4_init 33 = .ok (.putfield 21, 3) ∧ decode cX4_init 36 = .ok (.aload_n 0, 1) ∧ decode cX4_init 37 = .ok (.bipush 12, 2) ∧ decode cX4_init 39 = .ok (.newarray .int, 2) ∧ decode cX4_init 41 = .ok (.putfield 24, 3) ∧ decode cX4_init 44 = .ok (.aload_n 0, 1) ∧ decode cX4_init 45 = .ok (.bipush 12, 2) ∧ decode cX4_init 47 = .ok (.newarray .int, 2) ∧ decode cX4_init 49 = .ok (.putfield 27, 3) ∧ decode cX4_init 52 = .ok (.aload_n 0, 1) ∧ decode cX4_init 53 = .ok (.bipush 24, 2) ∧ decode cX4_init 55 = .ok (.newarray .int, 2) ∧ decode cX4_init 57 = .ok (.putfield 30, 3) ∧ decode cX4_init 60 = .ok (.aload_n 0, 1) ∧ decode cX4_init 61 = .ok (.bipush 96, 2) := by decide +kernel
theorem dX4_init_31 : decode cX4_init 31 = .ok (.newarray .int, 2) := dgX4_init_1.1
theorem dX4_init_33 : decode cX4_init 33 = .ok (.putfield 21, 3) := dgX4_init_1.2.1
theorem dX4_init_36 : decode cX4_init 36 = .ok (.aload_n 0, 1) := dgX4_init_1.2.2.1
theorem dX4_init_37 : decode cX4_init 37 = .ok (.bipush 12, 2) := dgX4_init_1.2.2.2.1
theorem dX4_init_39 : decode cX4_init 39 = .ok (.newarray .int, 2) := dgX4_init_1.2.2.2.2.1
theorem dX4_init_41 : decode cX4_init 41 = .ok (.putfield 24, 3) := dgX4_init_1.2.2.2.2.2.1
theorem dX4_init_44 : decode cX4_init 44 = .ok (.aload_n 0, 1) := dgX4_init_1.2.2.2.2.2.2.1
theorem dX4_init_45 : decode cX4_init 45 = .ok (.bipush 12, 2) := dgX4_init_1.2.2.2.2.2.2.2.1
theorem dX4_init_47 : decode cX4_init 47 = .ok (.newarray .int, 2) := dgX4_init_1.2.2.2.2.2.2.2.2.1
theorem dX4_init_49 : decode cX4_init 49 = .ok (.putfield 27, 3) := dgX4_init_1.2.2.2.2.2.2.2.2.2.1
theorem dX4_init_52 : decode cX4_init 52 = .ok (.aload_n 0, 1) := dgX4_init_1.2.2.2.2.2.2.2.2.2.2.1
theorem dX4_init_53 : decode cX4_init 53 = .ok (.bipush 24, 2) := dgX4_init_1.2.2.2.2.2.2.2.2.2.2.2.1
theorem dX4_init_55 : decode cX4_init 55 = .ok (.newarray .int, 2) := dgX4_init_1.2.2.2.2.2.2.2.2.2.2.2.2.1
theorem dX4_init_57 : decode cX4_init 57 = .ok (.putfield 30, 3) := dgX4_init_1.2.2.2.2.2.2.2.2.2.2.2.2.2.1
theorem dX4_init_60 : decode cX4_init 60 = .ok (.aload_n 0, 1) := dgX4_init_1.2.2.2.2.2.2.2.2.2.2.2.2.2.2.1
theorem dX4_init_61 : decode cX4_init 61 = .ok (.bipush 96, 2) := dgX4_init_1.2.2.2.2.2.2.2.2.2.2.2.2.2.2.2
theorem dgX4_init_2 : decode cX4_init 63 = .ok (.newarray .int, 2) ∧ decode cX4_init 65 = .ok (.putfield 33, 3) ∧ decode cX4_init 68 = .ok (.aload_n 0, 1) ∧ decode cX4_init 69 = .ok (.bipush 14, 2) ∧ decode cX4_init 71 = .ok (.anewarray 36, 3) ∧ decode cX4_init 74 = .ok (.putfield 38, 3) ∧ decode cX4_init 77 = .ok (.aload_n 0, 1) ∧ decode cX4_init 78 = .ok (.iconst 3, 1) ∧ decode cX4_init 79 = .ok (.newarray .int, 2) ∧ decode cX4_init 81 = .ok (.putfield 42, 3) ∧ decode cX4_init 84 = .ok (.aload_n 0, 1) ∧ decode cX4_init 85 = .ok (.iconst 1, 1) ∧ decode cX4_init 86 = .ok (.putfield 45, 3) ∧ decode cX4_init 89 = .ok (.aload_n 0, 1) ∧ decode cX4_init 90 = .ok (.getfield 27, 3) ∧ decode cX4_init 93 = .ok (.iconst (-1), 1) := by decide +kernel
theorem dX4_init_63 : decode cX4_init 63 = .ok (.newarray .int, 2) := dgX4_init_2.1
theorem dX4_init_65 : decode cX4_init 65 = .ok (.putfield 33, 3) := dgX4_init_2.2.1
theorem dX4_init_68 : decode cX4_init 68 = .ok (.aload_n 0, 1) := dgX4_init_2.2.2.1
theorem dX4_init_69 : decode cX4_init 69 = .ok (.bipush 14, 2) := dgX4_init_2.2.2.2.1
theorem dX4_init_71 : decode cX4_init 71 = .ok (.anewarray 36, 3) := dgX4_init_2.2.2.2.2.1
theorem dX4_init_74 : decode cX4_init 74 = .ok (.putfield 38, 3) := dgX4_init_2.2.2.2.2.2.1
theorem dX4_init_77 : decode cX4_init 77 = .ok (.aload_n 0, 1) := dgX4_init_2.2.2.2.2.2.2.1
theorem dX4_init_78 : decode cX4_init 78 = .ok (.iconst 3, 1) := dgX4_init_2.2.2.2.2.2.2.2.1
theorem dX4_init_79 : decode cX4_init 79 = .ok (.newarray .int, 2) := dgX4_init_2.2.2.2.2.2.2.2.2.1
theorem dX4_init_81 : decode cX4_init 81 = .ok (.putfield 42, 3) := dgX4_init_2.2.2.2.2.2.2.2.2.2.1
theorem dX4_init_84 : decode cX4_init 84 = .ok (.aload_n 0, 1) := dgX4_init_2.2.2.2.2.2.2.2.2.2.2.1
theorem dX4_init_85 : decode cX4_init 85 = .ok (.iconst 1, 1) := dgX4_init_2.2.2.2.2.2.2.2.2.2.2.2.1
theorem dX4_init_86 : decode cX4_init 86 = .ok (.putfield 45, 3) := dgX4_init_2.2.2.2.2.2.2.2.2.2.2.2.2.1
theorem dX4_init_89 : decode cX4_init 89 = .ok (.aload_n 0, 1) := dgX4_init_2.2.2.2.2.2.2.2.2.2.2.2.2.2.1
theorem dX4_init_90 : decode cX4_init 90 = .ok (.getfield 27, 3) := dgX4_init_2.2.2.2.2.2.2.2.2.2.2.2.2.2.2.1
theorem dX4_init_93 : decode cX4_init 93 = .ok (.iconst (-1), 1) := dgX4_init_2.2.2.2.2.2.2.2.2.2.2.2.2.2.2.2
theorem dgX4_init_3 : decode cX4_init 94 = .ok (.invokestatic 49, 3) ∧ decode cX4_init 97 = .ok (.aload_n 0, 1) ∧ decode cX4_init 98 = .ok (.getfield 30, 3) ∧ decode cX4_init 101 = .ok (.bipush 50, 2) ∧ decode cX4_init 103 = .ok (.invokestatic 49, 3) ∧ decode cX4_init 106 = .ok (.aload_n 0, 1) ∧ decode cX4_init 107 = .ok (.getfield 42, 3) ∧ decode cX4_init 110 = .ok (.iconst (-1), 1) ∧ decode cX4_init 111 = .ok (.invokestatic 49, 3) ∧ decode cX4_init 114 = .ok (.return_, 1) := by decide +kernel
theorem dX4_init_94 : decode cX4_init 94 = .ok (.invokestatic 49, 3) := dgX4_init_3.1
theorem dX4_init_97 : decode cX4_init 97 = .ok (.aload_n 0, 1) := dgX4_init_3.2.1
theorem dX4_init_98 : decode cX4_init 98 = .ok (.getfield 30, 3) := dgX4_init_3.2.2.1
theorem dX4_init_101 : decode cX4_init 101 = .ok (.bipush 50, 2) := dgX4_init_3.2.2.2.1
theorem dX4_init_103 : decode cX4_init 103 = .ok (.invokestatic 49, 3) := dgX4_init_3.2.2.2.2.1
theorem dX4_init_106 : decode cX4_init 106 = .ok (.aload_n 0, 1) := dgX4_init_3.2.2.2.2.2.1
theorem dX4_init_107 : decode cX4_init 107 = .ok (.getfield 42, 3) := dgX4_init_3.2.2.2.2.2.2.1
theorem dX4_init_110 : decode cX4_init 110 = .ok (.iconst (-1), 1) := dgX4_init_3.2.2.2.2.2.2.2.1
theorem dX4_init_111 : decode cX4_init 111 = .ok (.invokestatic 49, 3) := dgX4_init_3.2.2.2.2.2.2.2.2.1
theorem dX4_init_114 : decode cX4_init 114 = .ok (.return_, 1) := dgX4_init_3.2.2.2.2.2.2.2.2.2
abbrev pX4_init : List Nat := [0]
def bX4_init_0 (cal : ab_F) : ab_K := o_aload 0 <| o_oinit <| o_aload 0 <| o_push (.int 12) <| o_newi 0 <| o_putA 3 0 <| o_aload 0 <| o_push (.int 12) <| o_newi 0 <| o_putA 3 1 <| o_aload 0 <| o_push (.int 12) <| o_newi 0 <| o_putA 3 2 <| o_aload 0 <| o_push (.int 12) <| o_newi 0 <| o_putA 3 3 <| o_aload 0 <| o_push (.int 12) <| o_newi 0 <| o_putA 3 4 <| o_aload 0 <| o_push (.int 12) <| o_newi 0 <| o_putA 3 5 <| o_aload 0 <| o_push (.int 24) <| o_newi 0 <| o_putA 3 6 <| o_aload 0 <| o_push (.int 96) <| o_newi 0 <| o_putA 3 7 <| o_aload 0 <| o_push (.int 14) <| o_newa 5 <| o_putA 3 8 <| o_aload 0 <| o_push (.int 3) <| o_newi 0 <| o_putA 3 9 <| o_aload 0 <| o_push (.int 1) <| o_putI 3 14 <| o_aload 0 <| o_getf 3 5 <| o_push (.int (-1)) <| o_callS cal 250 2 <| o_aload 0 <| o_getf 3 6 <| o_push (.int 50) <| o_callS cal 250 2 <| o_aload 0 <| o_getf 3 9 <| o_push (.int (-1)) <| o_callS cal 250 2 <| o_ret none
def bX4_init (cal : ab_F) : List ab_K := [bX4_init_0 cal]
set_option maxRecDepth 100000 in
theorem sX4_init_0 {G : ab_G} {xs : List Int32} {d : Nat} {cal : ab_F} (hcs : ab_CS G (ab_Z G xs) ab_Mf cal d) : ab_Sd G (ab_Z G xs) (d + 1) (ab_mY mX4_init pX4_init) 0 (bX4_init_0 cal) :=
  sn_aload_n dX4_init_0 rfl <| sn_oinit (Nat.le_add_left 1 _) dX4_init_1 w_87 w_80 w_81 <| sn_aload_n dX4_init_4 rfl <| sn_bipush dX4_init_5 rfl <| sn_newi dX4_init_7 rfl w_154 rfl (fun _ _ h => h) rfl (by decide) <| sn_putA tyX4 tyX4_ok nmX4 dX4_init_9 rfl hinX4 (by decide) w_93 (Or.inr ⟨rfl, rfl, rfl⟩) (tyX4_ok 0 (by decide)) (fun _ => ⟨rfl, rfl⟩) ⟨rfl, rfl⟩ <| sn_aload_n dX4_init_12 rfl <| sn_bipush dX4_init_13 rfl <| sn_newi dX4_init_15 rfl w_154 rfl (fun _ _ h => h) rfl (by decide) <| sn_putA tyX4 tyX4_ok nmX4 dX4_init_17 rfl hinX4 (by decide) w_95 (Or.inr ⟨rfl, rfl, rfl⟩) (tyX4_ok 1 (by decide)) (fun _ => ⟨rfl, rfl⟩) ⟨rfl, rfl⟩ <| sn_aload_n dX4_init_20 rfl <| sn_bipush dX4_init_21 rfl <| sn_newi dX4_init_23 rfl w_154 rfl (fun _ _ h => h) rfl (by decide) <| sn_putA tyX4 tyX4_ok nmX4 dX4_init_25 rfl hinX4 (by decide) w_97 (Or.inr ⟨rfl, rfl, rfl⟩) (tyX4_ok 2 (by decide)) (fun _ => ⟨rfl, rfl⟩) ⟨rfl, rfl⟩ <| sn_aload_n dX4_init_28 rfl <| sn_bipush dX4_init_29 rfl <| sn_newi dX4_init_31 rfl w_154 rfl (fun _ _ h => h) rfl (by decide) <| sn_putA tyX4 tyX4_ok nmX4 dX4_init_33 rfl hinX4 (by decide) w_99 (Or.inr ⟨rfl, rfl, rfl⟩) (tyX4_ok 3 (by decide)) (fun _ => ⟨rfl, rfl⟩) ⟨rfl, rfl⟩ <| sn_aload_n dX4_init_36 rfl <| sn_bipush dX4_init_37 rfl <| sn_newi dX4_init_39 rfl w_154 rfl (fun _ _ h => h) rfl (by decide) <| sn_putA tyX4 tyX4_ok nmX4 dX4_init_41 rfl hinX4 (by decide) w_102 (Or.inr ⟨rfl, rfl, rfl⟩) (tyX4_ok 4 (by decide)) (fun _ => ⟨rfl, rfl⟩) ⟨rfl, rfl⟩ <| sn_aload_n dX4_init_44 rfl <| sn_bipush dX4_init_45 rfl <| sn_newi dX4_init_47 rfl w_154 rfl (fun _ _ h => h) rfl (by decide) <| sn_putA tyX4 tyX4_ok nmX4 dX4_init_49 rfl hinX4 (by decide) w_104 (Or.inr ⟨rfl, rfl, rfl⟩) (tyX4_ok 5 (by decide)) (fun _ => ⟨rfl, rfl⟩) ⟨rfl, rfl⟩ <| sn_aload_n dX4_init_52 rfl <| sn_bipush dX4_init_53 rfl <| sn_newi dX4_init_55 rfl w_154 rfl (fun _ _ h => h) rfl (by decide) <| sn_putA tyX4 tyX4_ok nmX4 dX4_init_57 rfl hinX4 (by decide) w_106 (Or.inr ⟨rfl, rfl, rfl⟩) (tyX4_ok 6 (by decide)) (fun _ => ⟨rfl, rfl⟩) ⟨rfl, rfl⟩ <| sn_aload_n dX4_init_60 rfl <| sn_bipush dX4_init_61 rfl <| sn_newi dX4_init_63 rfl w_154 rfl (fun _ _ h => h) rfl (by decide) <| sn_putA tyX4 tyX4_ok nmX4 dX4_init_65 rfl hinX4 (by decide) w_108 (Or.inr ⟨rfl, rfl, rfl⟩) (tyX4_ok 7 (by decide)) (fun _ => ⟨rfl, rfl⟩) ⟨rfl, rfl⟩ <| sn_aload_n dX4_init_68 rfl <| sn_bipush dX4_init_69 rfl <| sn_newa dX4_init_71 w_88 (fun U h => h.2.1 0 _ rfl) rfl <| sn_putA tyX4 tyX4_ok nmX4 dX4_init_74 rfl hinX4 (by decide) w_109 (Or.inr ⟨rfl, rfl, rfl⟩) (tyX4_ok 8 (by decide)) (fun _ => ⟨rfl, rfl⟩) ⟨rfl, rfl⟩ <| sn_aload_n dX4_init_77 rfl <| sn_iconst dX4_init_78 rfl <| sn_newi dX4_init_79 rfl w_154 rfl (fun _ _ h => h) rfl (by decide) <| sn_putA tyX4 tyX4_ok nmX4 dX4_init_81 rfl hinX4 (by decide) w_110 (Or.inr ⟨rfl, rfl, rfl⟩) (tyX4_ok 9 (by decide)) (fun _ => ⟨rfl, rfl⟩) ⟨rfl, rfl⟩ <| sn_aload_n dX4_init_84 rfl <| sn_iconst dX4_init_85 rfl <| sn_putI tyX4 tyX4_ok nmX4 dX4_init_86 rfl hinX4 (by decide) w_121 (Or.inl rfl) (tyX4_ok 14 (by decide)) <| sn_aload_n dX4_init_89 rfl <| sn_getf dX4_init_90 rfl hinX4 (by decide) w_104 <| sn_iconst dX4_init_93 rfl <| sq_callS mt_250 hcs dX4_init_94 w_90 w_91 w_57 w_92 hy_250 hm_250 <| sn_aload_n dX4_init_97 rfl <| sn_getf dX4_init_98 rfl hinX4 (by decide) w_106 <| sn_bipush dX4_init_101 rfl <| sq_callS mt_250 hcs dX4_init_103 w_90 w_91 w_57 w_92 hy_250 hm_250 <| sn_aload_n dX4_init_106 rfl <| sn_getf dX4_init_107 rfl hinX4 (by decide) w_110 <| sn_iconst dX4_init_110 rfl <| sq_callS mt_250 hcs dX4_init_111 w_90 w_91 w_57 w_92 hy_250 hm_250 <| sn_ret dX4_init_114 ab_ri_void
theorem sX4_init {G : ab_G} {xs : List Int32} {d : Nat} {cal : ab_F} (hcs : ab_CS G (ab_Z G xs) ab_Mf cal d) : ab_BS G (ab_Z G xs) (d + 1) (ab_mY mX4_init pX4_init) pX4_init (bX4_init cal) := ⟨sX4_init_0 hcs, trivial⟩
theorem dgX4_become_0 : decode cX4_become 0 = .ok (.aload_n 1, 1) ∧ decode cX4_become 1 = .ok (.getfield 9, 3) ∧ decode cX4_become 4 = .ok (.iconst 0, 1) ∧ decode cX4_become 5 = .ok (.aload_n 0, 1) ∧ decode cX4_become 6 = .ok (.getfield 9, 3) ∧ decode cX4_become 9 = .ok (.iconst 0, 1) ∧ decode cX4_become 10 = .ok (.bipush 12, 2) ∧ decode cX4_become 12 = .ok (.invokestatic 55, 3) ∧ decode cX4_become 15 = .ok (.aload_n 1, 1) ∧ decode cX4_become 16 = .ok (.getfield 15, 3) ∧ decode cX4_become 19 = .ok (.iconst 0, 1) ∧ decode cX4_become 20 = .ok (.aload_n 0, 1) ∧ decode cX4_become 21 = .ok (.getfield 15, 3) ∧ decode cX4_become 24 = .ok (.iconst 0, 1) ∧ decode cX4_become 25 = .ok (.bipush 12, 2) ∧ decode cX4_become 27 = .ok (.invokestatic 55, 3) := by decide +kernel
theorem dX4_become_0 : decode cX4_become 0 = .ok (.aload_n 1, 1) := dgX4_become_0.1
theorem dX4_become_1 : decode cX4_become 1 = .ok (.getfield 9, 3) := dgX4_become_0.2.1
theorem dX4_become_4 : decode cX4_become 4 = .ok (.iconst 0, 1) := dgX4_become_0.2.2.1
theorem dX4_become_5 : decode cX4_become 5 = .ok (.aload_n 0, 1) := dgX4_become_0.2.2.2.1
theorem dX4_become_6 : decode cX4_become 6 = .ok (.getfield 9, 3) := dgX4_become_0.2.2.2.2.1
theorem dX4_become_9 : decode cX4_become 9 = .ok (.iconst 0, 1) := dgX4_become_0.2.2.2.2.2.1
theorem dX4_become_10 : decode cX4_become 10 = .ok (.bipush 12, 2) := dgX4_become_0.2.2.2.2.2.2.1
theorem dX4_become_12 : decode cX4_become 12 = .ok (.invokestatic 55, 3) := dgX4_become_0.2.2.2.2.2.2.2.1
theorem dX4_become_15 : decode cX4_become 15 = .ok (.aload_n 1, 1) := dgX4_become_0.2.2.2.2.2.2.2.2.1
theorem dX4_become_16 : decode cX4_become 16 = .ok (.getfield 15, 3) := dgX4_become_0.2.2.2.2.2.2.2.2.2.1
theorem dX4_become_19 : decode cX4_become 19 = .ok (.iconst 0, 1) := dgX4_become_0.2.2.2.2.2.2.2.2.2.2.1
theorem dX4_become_20 : decode cX4_become 20 = .ok (.aload_n 0, 1) := dgX4_become_0.2.2.2.2.2.2.2.2.2.2.2.1
theorem dX4_become_21 : decode cX4_become 21 = .ok (.getfield 15, 3) := dgX4_become_0.2.2.2.2.2.2.2.2.2.2.2.2.1
theorem dX4_become_24 : decode cX4_become 24 = .ok (.iconst 0, 1) := dgX4_become_0.2.2.2.2.2.2.2.2.2.2.2.2.2.1
theorem dX4_become_25 : decode cX4_become 25 = .ok (.bipush 12, 2) := dgX4_become_0.2.2.2.2.2.2.2.2.2.2.2.2.2.2.1
theorem dX4_become_27 : decode cX4_become 27 = .ok (.invokestatic 55, 3) := dgX4_become_0.2.2.2.2.2.2.2.2.2.2.2.2.2.2.2
theorem dgX4_become_1 : decode cX4_become 30 = .ok (.aload_n 1, 1) ∧ decode cX4_become 31 = .ok (.getfield 18, 3) ∧ decode cX4_become 34 = .ok (.iconst 0, 1) ∧ decode cX4_become 35 = .ok (.aload_n 0, 1) ∧ decode cX4_become 36 = .ok (.getfield 18, 3) ∧ decode cX4_become 39 = .ok (.iconst 0, 1) ∧ decode cX4_become 40 = .ok (.bipush 12, 2) ∧ decode cX4_become 42 = .ok (.invokestatic 55, 3) ∧ decode cX4_become 45 = .ok (.aload_n 1, 1) ∧ decode cX4_become 46 = .ok (.getfield 21, 3) ∧ decode cX4_become 49 = .ok (.iconst 0, 1) ∧ decode cX4_become 50 = .ok (.aload_n 0, 1) ∧ decode cX4_become 51 = .ok (.getfield 21, 3) ∧ decode cX4_become 54 = .ok (.iconst 0, 1) ∧ decode cX4_become 55 = .ok (.bipush 12, 2) ∧ decode cX4_become 57 = .ok (.invokestatic 55, 3) := by decide +kernel
theorem dX4_become_30 : decode cX4_become 30 = .ok (.aload_n 1, 1) := dgX4_become_1.1
theorem dX4_become_31 : decode cX4_become 31 = .ok (.getfield 18, 3) := dgX4_become_1.2.1
theorem dX4_become_34 : decode cX4_become 34 = .ok (.iconst 0, 1) := dgX4_become_1.2.2.1
theorem dX4_become_35 : decode cX4_become 35 = .ok (.aload_n 0, 1) := dgX4_become_1.2.2.2.1
theorem dX4_become_36 : decode cX4_become 36 = .ok (.getfield 18, 3) := dgX4_become_1.2.2.2.2.1
theorem dX4_become_39 : decode cX4_become 39 = .ok (.iconst 0, 1) := dgX4_become_1.2.2.2.2.2.1
theorem dX4_become_40 : decode cX4_become 40 = .ok (.bipush 12, 2) := dgX4_become_1.2.2.2.2.2.2.1
theorem dX4_become_42 : decode cX4_become 42 = .ok (.invokestatic 55, 3) := dgX4_become_1.2.2.2.2.2.2.2.1
theorem dX4_become_45 : decode cX4_become 45 = .ok (.aload_n 1, 1) := dgX4_become_1.2.2.2.2.2.2.2.2.1
theorem dX4_become_46 : decode cX4_become 46 = .ok (.getfield 21, 3) := dgX4_become_1.2.2.2.2.2.2.2.2.2.1
theorem dX4_become_49 : decode cX4_become 49 = .ok (.iconst 0, 1) := dgX4_become_1.2.2.2.2.2.2.2.2.2.2.1
theorem dX4_become_50 : decode cX4_become 50 = .ok (.aload_n 0, 1) := dgX4_become_1.2.2.2.2.2.2.2.2.2.2.2.1
theorem dX4_become_51 : decode cX4_become 51 = .ok (.getfield 21, 3) := dgX4_become_1.2.2.2.2.2.2.2.2.2.2.2.2.1
theorem dX4_become_54 : decode cX4_become 54 = .ok (.iconst 0, 1) := dgX4_become_1.2.2.2.2.2.2.2.2.2.2.2.2.2.1
theorem dX4_become_55 : decode cX4_become 55 = .ok (.bipush 12, 2) := dgX4_become_1.2.2.2.2.2.2.2.2.2.2.2.2.2.2.1
theorem dX4_become_57 : decode cX4_become 57 = .ok (.invokestatic 55, 3) := dgX4_become_1.2.2.2.2.2.2.2.2.2.2.2.2.2.2.2
theorem dgX4_become_2 : decode cX4_become 60 = .ok (.aload_n 1, 1) ∧ decode cX4_become 61 = .ok (.getfield 24, 3) ∧ decode cX4_become 64 = .ok (.iconst 0, 1) ∧ decode cX4_become 65 = .ok (.aload_n 0, 1) ∧ decode cX4_become 66 = .ok (.getfield 24, 3) ∧ decode cX4_become 69 = .ok (.iconst 0, 1) ∧ decode cX4_become 70 = .ok (.bipush 12, 2) ∧ decode cX4_become 72 = .ok (.invokestatic 55, 3) ∧ decode cX4_become 75 = .ok (.aload_n 1, 1) ∧ decode cX4_become 76 = .ok (.getfield 27, 3) ∧ decode cX4_become 79 = .ok (.iconst 0, 1) ∧ decode cX4_become 80 = .ok (.aload_n 0, 1) ∧ decode cX4_become 81 = .ok (.getfield 27, 3) ∧ decode cX4_become 84 = .ok (.iconst 0, 1) ∧ decode cX4_become 85 = .ok (.bipush 12, 2) ∧ decode cX4_become 87 = .ok (.invokestatic 55, 3) := by decide +kernel
theorem dX4_become_60 : decode cX4_become 60 = .ok (.aload_n 1, 1) := dgX4_become_2.1
theorem dX4_become_61 : decode cX4_become 61 = .ok (.getfield 24, 3) := dgX4_become_2.2.1
theorem dX4_become_64 : decode cX4_become 64 = .ok (.iconst 0, 1) := dgX4_become_2.2.2.1
theorem dX4_become_65 : decode cX4_become 65 = .ok (.aload_n 0, 1) := dgX4_become_2.2.2.2.1
theorem dX4_become_66 : decode cX4_become 66 = .ok (.getfield 24, 3) := dgX4_become_2.2.2.2.2.1
theorem dX4_become_69 : decode cX4_become 69 = .ok (.iconst 0, 1) := dgX4_become_2.2.2.2.2.2.1
theorem dX4_become_70 : decode cX4_become 70 = .ok (.bipush 12, 2) := dgX4_become_2.2.2.2.2.2.2.1
theorem dX4_become_72 : decode cX4_become 72 = .ok (.invokestatic 55, 3) := dgX4_become_2.2.2.2.2.2.2.2.1
theorem dX4_become_75 : decode cX4_become 75 = .ok (.aload_n 1, 1) := dgX4_become_2.2.2.2.2.2.2.2.2.1
theorem dX4_become_76 : decode cX4_become 76 = .ok (.getfield 27, 3) := dgX4_become_2.2.2.2.2.2.2.2.2.2.1
theorem dX4_become_79 : decode cX4_become 79 = .ok (.iconst 0, 1) := dgX4_become_2.2.2.2.2.2.2.2.2.2.2.1
theorem dX4_become_80 : decode cX4_become 80 = .ok (.aload_n 0, 1) := dgX4_become_2.2.2.2.2.2.2.2.2.2.2.2.1
theorem dX4_become_81 : decode cX4_become 81 = .ok (.getfield 27, 3) := dgX4_become_2.2.2.2.2.2.2.2.2.2.2.2.2.1
theorem dX4_become_84 : decode cX4_become 84 = .ok (.iconst 0, 1) := dgX4_become_2.2.2.2.2.2.2.2.2.2.2.2.2.2.1
theorem dX4_become_85 : decode cX4_become 85 = .ok (.bipush 12, 2) := dgX4_become_2.2.2.2.2.2.2.2.2.2.2.2.2.2.2.1
theorem dX4_become_87 : decode cX4_become 87 = .ok (.invokestatic 55, 3) := dgX4_become_2.2.2.2.2.2.2.2.2.2.2.2.2.2.2.2
theorem dgX4_become_3 : decode cX4_become 90 = .ok (.aload_n 1, 1) ∧ decode cX4_become 91 = .ok (.getfield 30, 3) ∧ decode cX4_become 94 = .ok (.iconst 0, 1) ∧ decode cX4_become 95 = .ok (.aload_n 0, 1) ∧ decode cX4_become 96 = .ok (.getfield 30, 3) ∧ decode cX4_become 99 = .ok (.iconst 0, 1) ∧ decode cX4_become 100 = .ok (.bipush 24, 2) ∧ decode cX4_become 102 = .ok (.invokestatic 55, 3) ∧ decode cX4_become 105 = .ok (.aload_n 1, 1) ∧ decode cX4_become 106 = .ok (.getfield 33, 3) ∧ decode cX4_become 109 = .ok (.iconst 0, 1) ∧ decode cX4_become 110 = .ok (.aload_n 0, 1) ∧ decode cX4_become 111 = .ok (.getfield 33, 3) ∧ decode cX4_become 114 = .ok (.iconst 0, 1) ∧ decode cX4_become 115 = .ok (.bipush 96, 2) ∧ decode cX4_become 117 = .ok (.invokestatic 55, 3) := by decide +kernel
theorem dX4_become_90 : decode cX4_become 90 = .ok (.aload_n 1, 1) := dgX4_become_3.1
theorem dX4_become_91 : decode cX4_become 91 = .ok (.getfield 30, 3) := dgX4_become_3.2.1
theorem dX4_become_94 : decode cX4_become 94 = .ok (.iconst 0, 1) := dgX4_become_3.2.2.1
theorem dX4_become_95 : decode cX4_become 95 = .ok (.aload_n 0, 1) := dgX4_become_3.2.2.2.1
theorem dX4_become_96 : decode cX4_become 96 = .ok (.getfield 30, 3) := dgX4_become_3.2.2.2.2.1
theorem dX4_become_99 : decode cX4_become 99 = .ok (.iconst 0, 1) := dgX4_become_3.2.2.2.2.2.1
theorem dX4_become_100 : decode cX4_become 100 = .ok (.bipush 24, 2) := dgX4_become_3.2.2.2.2.2.2.1
theorem dX4_become_102 : decode cX4_become 102 = .ok (.invokestatic 55, 3) := dgX4_become_3.2.2.2.2.2.2.2.1
theorem dX4_become_105 : decode cX4_become 105 = .ok (.aload_n 1, 1) := dgX4_become_3.2.2.2.2.2.2.2.2.1
theorem dX4_become_106 : decode cX4_become 106 = .ok (.getfield 33, 3) := dgX4_become_3.2.2.2.2.2.2.2.2.2.1
theorem dX4_become_109 : decode cX4_become 109 = .ok (.iconst 0, 1) := dgX4_become_3.2.2.2.2.2.2.2.2.2.2.1
theorem dX4_become_110 : decode cX4_become 110 = .ok (.aload_n 0, 1) := dgX4_become_3.2.2.2.2.2.2.2.2.2.2.2.1
theorem dX4_become_111 : decode cX4_become 111 = .ok (.getfield 33, 3) := dgX4_become_3.2.2.2.2.2.2.2.2.2.2.2.2.1
theorem dX4_become_114 : decode cX4_become 114 = .ok (.iconst 0, 1) := dgX4_become_3.2.2.2.2.2.2.2.2.2.2.2.2.2.1
theorem dX4_become_115 : decode cX4_become 115 = .ok (.bipush 96, 2) := dgX4_become_3.2.2.2.2.2.2.2.2.2.2.2.2.2.2.1
theorem dX4_become_117 : decode cX4_become 117 = .ok (.invokestatic 55, 3) := dgX4_become_3.2.2.2.2.2.2.2.2.2.2.2.2.2.2.2
theorem dgX4_become_4 : decode cX4_become 120 = .ok (.aload_n 1, 1) ∧ decode cX4_become 121 = .ok (.getfield 42, 3) ∧ decode cX4_become 124 = .ok (.iconst 0, 1) ∧ decode cX4_become 125 = .ok (.aload_n 0, 1) ∧ decode cX4_become 126 = .ok (.getfield 42, 3) ∧ decode cX4_become 129 = .ok (.iconst 0, 1) ∧ decode cX4_become 130 = .ok (.iconst 3, 1) ∧ decode cX4_become 131 = .ok (.invokestatic 55, 3) ∧ decode cX4_become 134 = .ok (.iconst 0, 1) ∧ decode cX4_become 135 = .ok (.istore_n 2, 1) ∧ decode cX4_become 136 = .ok (.iload_n 2, 1) ∧ decode cX4_become 137 = .ok (.bipush 14, 2) ∧ decode cX4_become 139 = .ok (.if_icmp .ge 21, 3) ∧ decode cX4_become 142 = .ok (.aload_n 0, 1) ∧ decode cX4_become 143 = .ok (.getfield 38, 3) ∧ decode cX4_become 146 = .ok (.iload_n 2, 1) := by decide +kernel
theorem dX4_become_120 : decode cX4_become 120 = .ok (.aload_n 1, 1) := dgX4_become_4.1
theorem dX4_become_121 : decode cX4_become 121 = .ok (.getfield 42, 3) := dgX4_become_4.2.1
theorem dX4_become_124 : decode cX4_become 124 = .ok (.iconst 0, 1) := dgX4_become_4.2.2.1
theorem dX4_become_125 : decode cX4_become 125 = .ok (.aload_n 0, 1) := dgX4_become_4.2.2.2.1
theorem dX4_become_126 : decode cX4_become 126 = .ok (.getfield 42, 3) := dgX4_become_4.2.2.2.2.1
theorem dX4_become_129 : decode cX4_become 129 = .ok (.iconst 0, 1) := dgX4_become_4.2.2.2.2.2.1
theorem dX4_become_130 : decode cX4_become 130 = .ok (.iconst 3, 1) := dgX4_become_4.2.2.2.2.2.2.1
theorem dX4_become_131 : decode cX4_become 131 = .ok (.invokestatic 55, 3) := dgX4_become_4.2.2.2.2.2.2.2.1
theorem dX4_become_134 : decode cX4_become 134 = .ok (.iconst 0, 1) := dgX4_become_4.2.2.2.2.2.2.2.2.1
theorem dX4_become_135 : decode cX4_become 135 = .ok (.istore_n 2, 1) := dgX4_become_4.2.2.2.2.2.2.2.2.2.1
theorem dX4_become_136 : decode cX4_become 136 = .ok (.iload_n 2, 1) := dgX4_become_4.2.2.2.2.2.2.2.2.2.2.1
theorem dX4_become_137 : decode cX4_become 137 = .ok (.bipush 14, 2) := dgX4_become_4.2.2.2.2.2.2.2.2.2.2.2.1
theorem dX4_become_139 : decode cX4_become 139 = .ok (.if_icmp .ge 21, 3) := dgX4_become_4.2.2.2.2.2.2.2.2.2.2.2.2.1
theorem dX4_become_142 : decode cX4_become 142 = .ok (.aload_n 0, 1) := dgX4_become_4.2.2.2.2.2.2.2.2.2.2.2.2.2.1
theorem dX4_become_143 : decode cX4_become 143 = .ok (.getfield 38, 3) := dgX4_become_4.2.2.2.2.2.2.2.2.2.2.2.2.2.2.1
theorem dX4_become_146 : decode cX4_become 146 = .ok (.iload_n 2, 1) := dgX4_become_4.2.2.2.2.2.2.2.2.2.2.2.2.2.2.2
theorem dgX4_become_5 : decode cX4_become 147 = .ok (.aload_n 1, 1) ∧ decode cX4_become 148 = .ok (.getfield 38, 3) ∧ decode cX4_become 151 = .ok (.iload_n 2, 1) ∧ decode cX4_become 152 = .ok (.aaload, 1) ∧ decode cX4_become 153 = .ok (.aastore, 1) ∧ decode cX4_become 154 = .ok (.iinc 2 1, 3) ∧ decode cX4_become 157 = .ok (.goto (-21), 3) ∧ decode cX4_become 160 = .ok (.aload_n 0, 1) ∧ decode cX4_become 161 = .ok (.aload_n 1, 1) ∧ decode cX4_become 162 = .ok (.getfield 61, 3) ∧ decode cX4_become 165 = .ok (.putfield 61, 3) ∧ decode cX4_become 168 = .ok (.aload_n 0, 1) ∧ decode cX4_become 169 = .ok (.aload_n 1, 1) ∧ decode cX4_become 170 = .ok (.getfield 64, 3) ∧ decode cX4_become 173 = .ok (.putfield 64, 3) ∧ decode cX4_become 176 = .ok (.aload_n 0, 1) := by decide +kernel
theorem dX4_become_147 : decode cX4_become 147 = .ok (.aload_n 1, 1) := dgX4_become_5.1
theorem dX4_become_148 : decode cX4_become 148 = .ok (.getfield 38, 3) := dgX4_become_5.2.1
theorem dX4_become_151 : decode cX4_become 151 = .ok (.iload_n 2, 1) := dgX4_become_5.2.2.1
theorem dX4_become_152 : decode cX4_become 152 = .ok (.aaload, 1) := dgX4_become_5.2.2.2.1
theorem dX4_become_153 : decode cX4_become 153 = .ok (.aastore, 1) := dgX4_become_5.2.2.2.2.1
theorem dX4_become_154 : decode cX4_become 154 = .ok (.iinc 2 1, 3) := dgX4_become_5.2.2.2.2.2.1
theorem dX4_become_157 : decode cX4_become 157 = .ok (.goto (-21), 3) := dgX4_become_5.2.2.2.2.2.2.1
theorem dX4_become_160 : decode cX4_become 160 = .ok (.aload_n 0, 1) := dgX4_become_5.2.2.2.2.2.2.2.1
theorem dX4_become_161 : decode cX4_become 161 = .ok (.aload_n 1, 1) := dgX4_become_5.2.2.2.2.2.2.2.2.1
theorem dX4_become_162 : decode cX4_become 162 = .ok (.getfield 61, 3) := dgX4_become_5.2.2.2.2.2.2.2.2.2.1
theorem dX4_become_165 : decode cX4_become 165 = .ok (.putfield 61, 3) := dgX4_become_5.2.2.2.2.2.2.2.2.2.2.1
theorem dX4_become_168 : decode cX4_become 168 = .ok (.aload_n 0, 1) := dgX4_become_5.2.2.2.2.2.2.2.2.2.2.2.1
theorem dX4_become_169 : decode cX4_become 169 = .ok (.aload_n 1, 1) := dgX4_become_5.2.2.2.2.2.2.2.2.2.2.2.2.1
theorem dX4_become_170 : decode cX4_become 170 = .ok (.getfield 64, 3) := dgX4_become_5.2.2.2.2.2.2.2.2.2.2.2.2.2.1
theorem dX4_become_173 : decode cX4_become 173 = .ok (.putfield 64, 3) := dgX4_become_5.2.2.2.2.2.2.2.2.2.2.2.2.2.2.1
theorem dX4_become_176 : decode cX4_become 176 = .ok (.aload_n 0, 1) := dgX4_become_5.2.2.2.2.2.2.2.2.2.2.2.2.2.2.2
theorem dgX4_become_6 : decode cX4_become 177 = .ok (.aload_n 1, 1) ∧ decode cX4_become 178 = .ok (.getfield 67, 3) ∧ decode cX4_become 181 = .ok (.putfield 67, 3) ∧ decode cX4_become 184 = .ok (.aload_n 0, 1) ∧ decode cX4_become 185 = .ok (.aload_n 1, 1) ∧ decode cX4_become 186 = .ok (.getfield 70, 3) ∧ decode cX4_become 189 = .ok (.putfield 70, 3) ∧ decode cX4_become 192 = .ok (.aload_n 0, 1) ∧ decode cX4_become 193 = .ok (.aload_n 1, 1) ∧ decode cX4_become 194 = .ok (.getfield 45, 3) ∧ decode cX4_become 197 = .ok (.putfield 45, 3) ∧ decode cX4_become 200 = .ok (.return_, 1) := by decide +kernel
theorem dX4_become_177 : decode cX4_become 177 = .ok (.aload_n 1, 1) := dgX4_become_6.1
theorem dX4_become_178 : decode cX4_become 178 = .ok (.getfield 67, 3) := dgX4_become_6.2.1
theorem dX4_become_181 : decode cX4_become 181 = .ok (.putfield 67, 3) := dgX4_become_6.2.2.1
theorem dX4_become_184 : decode cX4_become 184 = .ok (.aload_n 0, 1) := dgX4_become_6.2.2.2.1
theorem dX4_become_185 : decode cX4_become 185 = .ok (.aload_n 1, 1) := dgX4_become_6.2.2.2.2.1
theorem dX4_become_186 : decode cX4_become 186 = .ok (.getfield 70, 3) := dgX4_become_6.2.2.2.2.2.1
theorem dX4_become_189 : decode cX4_become 189 = .ok (.putfield 70, 3) := dgX4_become_6.2.2.2.2.2.2.1
theorem dX4_become_192 : decode cX4_become 192 = .ok (.aload_n 0, 1) := dgX4_become_6.2.2.2.2.2.2.2.1
theorem dX4_become_193 : decode cX4_become 193 = .ok (.aload_n 1, 1) := dgX4_become_6.2.2.2.2.2.2.2.2.1
theorem dX4_become_194 : decode cX4_become 194 = .ok (.getfield 45, 3) := dgX4_become_6.2.2.2.2.2.2.2.2.2.1
theorem dX4_become_197 : decode cX4_become 197 = .ok (.putfield 45, 3) := dgX4_become_6.2.2.2.2.2.2.2.2.2.2.1
theorem dX4_become_200 : decode cX4_become 200 = .ok (.return_, 1) := dgX4_become_6.2.2.2.2.2.2.2.2.2.2.2
abbrev pX4_become : List Nat := [0, 136, 160]
def bX4_become_0 (cal : ab_F) : ab_K := o_aload 1 <| o_getf 3 0 <| o_push (.int 0) <| o_aload 0 <| o_getf 3 0 <| o_push (.int 0) <| o_push (.int 12) <| o_acopy <| o_aload 1 <| o_getf 3 1 <| o_push (.int 0) <| o_aload 0 <| o_getf 3 1 <| o_push (.int 0) <| o_push (.int 12) <| o_acopy <| o_aload 1 <| o_getf 3 2 <| o_push (.int 0) <| o_aload 0 <| o_getf 3 2 <| o_push (.int 0) <| o_push (.int 12) <| o_acopy <| o_aload 1 <| o_getf 3 3 <| o_push (.int 0) <| o_aload 0 <| o_getf 3 3 <| o_push (.int 0) <| o_push (.int 12) <| o_acopy <| o_aload 1 <| o_getf 3 4 <| o_push (.int 0) <| o_aload 0 <| o_getf 3 4 <| o_push (.int 0) <| o_push (.int 12) <| o_acopy <| o_aload 1 <| o_getf 3 5 <| o_push (.int 0) <| o_aload 0 <| o_getf 3 5 <| o_push (.int 0) <| o_push (.int 12) <| o_acopy <| o_aload 1 <| o_getf 3 6 <| o_push (.int 0) <| o_aload 0 <| o_getf 3 6 <| o_push (.int 0) <| o_push (.int 24) <| o_acopy <| o_aload 1 <| o_getf 3 7 <| o_push (.int 0) <| o_aload 0 <| o_getf 3 7 <| o_push (.int 0) <| o_push (.int 96) <| o_acopy <| o_aload 1 <| o_getf 3 9 <| o_push (.int 0) <| o_aload 0 <| o_getf 3 9 <| o_push (.int 0) <| o_push (.int 3) <| o_acopy <| o_push (.int 0) <| o_istore 2 <| o_goto 1
def bX4_become_1 (cal : ab_F) : ab_K := o_iload 2 <| o_push (.int 14) <| o_cmp (fun x y => decide (y ≤ x)) 2 <| o_aload 0 <| o_getf 3 8 <| o_iload 2 <| o_aload 1 <| o_getf 3 8 <| o_iload 2 <| o_aald 5 <| o_aast 5 5 <| o_iinc 2 1 <| o_goto 1
def bX4_become_2 (cal : ab_F) : ab_K := o_aload 0 <| o_aload 1 <| o_getf 3 10 <| o_putI 3 10 <| o_aload 0 <| o_aload 1 <| o_getf 3 11 <| o_putI 3 11 <| o_aload 0 <| o_aload 1 <| o_getf 3 12 <| o_putI 3 12 <| o_aload 0 <| o_aload 1 <| o_getf 3 13 <| o_putI 3 13 <| o_aload 0 <| o_aload 1 <| o_getf 3 14 <| o_putI 3 14 <| o_ret none
def bX4_become (cal : ab_F) : List ab_K := [bX4_become_0 cal, bX4_become_1 cal, bX4_become_2 cal]
set_option maxRecDepth 100000 in
theorem sX4_become_0 {G : ab_G} {xs : List Int32} {d : Nat} {cal : ab_F} (hcs : ab_CS G (ab_Z G xs) ab_Mf cal d) : ab_Sd G (ab_Z G xs) (d + 1) (ab_mY mX4_become pX4_become) 0 (bX4_become_0 cal) :=
  sn_aload_n dX4_become_0 rfl <| sn_getf dX4_become_1 rfl hinX4 (by decide) w_93 <| sn_iconst dX4_become_4 rfl <| sn_aload_n dX4_become_5 rfl <| sn_getf dX4_become_6 rfl hinX4 (by decide) w_93 <| sn_iconst dX4_become_9 rfl <| sn_bipush dX4_become_10 rfl <| sn_acopy (Nat.le_add_left 1 _) dX4_become_12 w_593 w_595 w_594 w_68 <| sn_aload_n dX4_become_15 rfl <| sn_getf dX4_become_16 rfl hinX4 (by decide) w_95 <| sn_iconst dX4_become_19 rfl <| sn_aload_n dX4_become_20 rfl <| sn_getf dX4_become_21 rfl hinX4 (by decide) w_95 <| sn_iconst dX4_become_24 rfl <| sn_bipush dX4_become_25 rfl <| sn_acopy (Nat.le_add_left 1 _) dX4_become_27 w_593 w_595 w_594 w_68 <| sn_aload_n dX4_become_30 rfl <| sn_getf dX4_become_31 rfl hinX4 (by decide) w_97 <| sn_iconst dX4_become_34 rfl <| sn_aload_n dX4_become_35 rfl <| sn_getf dX4_become_36 rfl hinX4 (by decide) w_97 <| sn_iconst dX4_become_39 rfl <| sn_bipush dX4_become_40 rfl <| sn_acopy (Nat.le_add_left 1 _) dX4_become_42 w_593 w_595 w_594 w_68 <| sn_aload_n dX4_become_45 rfl <| sn_getf dX4_become_46 rfl hinX4 (by decide) w_99 <| sn_iconst dX4_become_49 rfl <| sn_aload_n dX4_become_50 rfl <| sn_getf dX4_become_51 rfl hinX4 (by decide) w_99 <| sn_iconst dX4_become_54 rfl <| sn_bipush dX4_become_55 rfl <| sn_acopy (Nat.le_add_left 1 _) dX4_become_57 w_593 w_595 w_594 w_68 <| sn_aload_n dX4_become_60 rfl <| sn_getf dX4_become_61 rfl hinX4 (by decide) w_102 <| sn_iconst dX4_become_64 rfl <| sn_aload_n dX4_become_65 rfl <| sn_getf dX4_become_66 rfl hinX4 (by decide) w_102 <| sn_iconst dX4_become_69 rfl <| sn_bipush dX4_become_70 rfl <| sn_acopy (Nat.le_add_left 1 _) dX4_become_72 w_593 w_595 w_594 w_68 <| sn_aload_n dX4_become_75 rfl <| sn_getf dX4_become_76 rfl hinX4 (by decide) w_104 <| sn_iconst dX4_become_79 rfl <| sn_aload_n dX4_become_80 rfl <| sn_getf dX4_become_81 rfl hinX4 (by decide) w_104 <| sn_iconst dX4_become_84 rfl <| sn_bipush dX4_become_85 rfl <| sn_acopy (Nat.le_add_left 1 _) dX4_become_87 w_593 w_595 w_594 w_68 <| sn_aload_n dX4_become_90 rfl <| sn_getf dX4_become_91 rfl hinX4 (by decide) w_106 <| sn_iconst dX4_become_94 rfl <| sn_aload_n dX4_become_95 rfl <| sn_getf dX4_become_96 rfl hinX4 (by decide) w_106 <| sn_iconst dX4_become_99 rfl <| sn_bipush dX4_become_100 rfl <| sn_acopy (Nat.le_add_left 1 _) dX4_become_102 w_593 w_595 w_594 w_68 <| sn_aload_n dX4_become_105 rfl <| sn_getf dX4_become_106 rfl hinX4 (by decide) w_108 <| sn_iconst dX4_become_109 rfl <| sn_aload_n dX4_become_110 rfl <| sn_getf dX4_become_111 rfl hinX4 (by decide) w_108 <| sn_iconst dX4_become_114 rfl <| sn_bipush dX4_become_115 rfl <| sn_acopy (Nat.le_add_left 1 _) dX4_become_117 w_593 w_595 w_594 w_68 <| sn_aload_n dX4_become_120 rfl <| sn_getf dX4_become_121 rfl hinX4 (by decide) w_110 <| sn_iconst dX4_become_124 rfl <| sn_aload_n dX4_become_125 rfl <| sn_getf dX4_become_126 rfl hinX4 (by decide) w_110 <| sn_iconst dX4_become_129 rfl <| sn_iconst dX4_become_130 rfl <| sn_acopy (Nat.le_add_left 1 _) dX4_become_131 w_593 w_595 w_594 w_68 <| sn_iconst dX4_become_134 rfl <| sn_istore_n dX4_become_135 rfl (by decide) <| sn_next rfl
set_option maxRecDepth 100000 in
theorem sX4_become_1 {G : ab_G} {xs : List Int32} {d : Nat} {cal : ab_F} (hcs : ab_CS G (ab_Z G xs) ab_Mf cal d) : ab_Sd G (ab_Z G xs) (d + 1) (ab_mY mX4_become pX4_become) 136 (bX4_become_1 cal) :=
  sn_iload_n dX4_become_136 rfl <| sn_bipush dX4_become_137 rfl <| sn_cmp_ge (tg := 160) dX4_become_139 rfl rfl <| sn_aload_n dX4_become_142 rfl <| sn_getf dX4_become_143 rfl hinX4 (by decide) w_109 <| sn_iload_n dX4_become_146 rfl <| sn_aload_n dX4_become_147 rfl <| sn_getf dX4_become_148 rfl hinX4 (by decide) w_109 <| sn_iload_n dX4_become_151 rfl <| sn_aald dX4_become_152 rfl <| sn_aast (q := (RX6, TX6, 5)) dX4_become_153 rfl rfl <| sn_iinc dX4_become_154 rfl (by decide) <| sn_goto (tg := 136) dX4_become_157 rfl rfl
set_option maxRecDepth 100000 in
theorem sX4_become_2 {G : ab_G} {xs : List Int32} {d : Nat} {cal : ab_F} (hcs : ab_CS G (ab_Z G xs) ab_Mf cal d) : ab_Sd G (ab_Z G xs) (d + 1) (ab_mY mX4_become pX4_become) 160 (bX4_become_2 cal) :=
  sn_aload_n dX4_become_160 rfl <| sn_aload_n dX4_become_161 rfl <| sn_getf dX4_become_162 rfl hinX4 (by decide) w_113 <| sn_putI tyX4 tyX4_ok nmX4 dX4_become_165 rfl hinX4 (by decide) w_113 (Or.inl rfl) (tyX4_ok 10 (by decide)) <| sn_aload_n dX4_become_168 rfl <| sn_aload_n dX4_become_169 rfl <| sn_getf dX4_become_170 rfl hinX4 (by decide) w_115 <| sn_putI tyX4 tyX4_ok nmX4 dX4_become_173 rfl hinX4 (by decide) w_115 (Or.inl rfl) (tyX4_ok 11 (by decide)) <| sn_aload_n dX4_become_176 rfl <| sn_aload_n dX4_become_177 rfl <| sn_getf dX4_become_178 rfl hinX4 (by decide) w_117 <| sn_putI tyX4 tyX4_ok nmX4 dX4_become_181 rfl hinX4 (by decide) w_117 (Or.inl rfl) (tyX4_ok 12 (by decide)) <| sn_aload_n dX4_become_184 rfl <| sn_aload_n dX4_become_185 rfl <| sn_getf dX4_become_186 rfl hinX4 (by decide) w_119 <| sn_putI tyX4 tyX4_ok nmX4 dX4_become_189 rfl hinX4 (by decide) w_119 (Or.inl rfl) (tyX4_ok 13 (by decide)) <| sn_aload_n dX4_become_192 rfl <| sn_aload_n dX4_become_193 rfl <| sn_getf dX4_become_194 rfl hinX4 (by decide) w_121 <| sn_putI tyX4 tyX4_ok nmX4 dX4_become_197 rfl hinX4 (by decide) w_121 (Or.inl rfl) (tyX4_ok 14 (by decide)) <| sn_ret dX4_become_200 ab_ri_void
theorem sX4_become {G : ab_G} {xs : List Int32} {d : Nat} {cal : ab_F} (hcs : ab_CS G (ab_Z G xs) ab_Mf cal d) : ab_BS G (ab_Z G xs) (d + 1) (ab_mY mX4_become pX4_become) pX4_become (bX4_become cal) := ⟨sX4_become_0 hcs, sX4_become_1 hcs, sX4_become_2 hcs, trivial⟩
theorem dgX4_addStone_0 : decode cX4_addStone 0 = .ok (.aload_n 0, 1) ∧ decode cX4_addStone 1 = .ok (.getfield 61, 3) ∧ decode cX4_addStone 4 = .ok (.istore 4, 2) ∧ decode cX4_addStone 6 = .ok (.aload_n 0, 1) ∧ decode cX4_addStone 7 = .ok (.dup, 1) ∧ decode cX4_addStone 8 = .ok (.getfield 61, 3) ∧ decode cX4_addStone 11 = .ok (.iconst 1, 1) ∧ decode cX4_addStone 12 = .ok (.iadd, 1) ∧ decode cX4_addStone 13 = .ok (.putfield 61, 3) ∧ decode cX4_addStone 16 = .ok (.aload_n 0, 1) ∧ decode cX4_addStone 17 = .ok (.getfield 9, 3) ∧ decode cX4_addStone 20 = .ok (.iload 4, 2) ∧ decode cX4_addStone 22 = .ok (.iload_n 1, 1) ∧ decode cX4_addStone 23 = .ok (.iastore, 1) ∧ decode cX4_addStone 24 = .ok (.aload_n 0, 1) ∧ decode cX4_addStone 25 = .ok (.getfield 15, 3) := by decide +kernel
theorem dX4_addStone_0 : decode cX4_addStone 0 = .ok (.aload_n 0, 1) := dgX4_addStone_0.1
theorem dX4_addStone_1 : decode cX4_addStone 1 = .ok (.getfield 61, 3) := dgX4_addStone_0.2.1
theorem dX4_addStone_4 : decode cX4_addStone 4 = .ok (.istore 4, 2) := dgX4_addStone_0.2.2.1
theorem dX4_addStone_6 : decode cX4_addStone 6 = .ok (.aload_n 0, 1) := dgX4_addStone_0.2.2.2.1
theorem dX4_addStone_7 : decode cX4_addStone 7 = .ok (.dup, 1) := dgX4_addStone_0.2.2.2.2.1
theorem dX4_addStone_8 : decode cX4_addStone 8 = .ok (.getfield 61, 3) := dgX4_addStone_0.2.2.2.2.2.1
theorem dX4_addStone_11 : decode cX4_addStone 11 = .ok (.iconst 1, 1) := dgX4_addStone_0.2.2.2.2.2.2.1
theorem dX4_addStone_12 : decode cX4_addStone 12 = .ok (.iadd, 1) := dgX4_addStone_0.2.2.2.2.2.2.2.1
theorem dX4_addStone_13 : decode cX4_addStone 13 = .ok (.putfield 61, 3) := dgX4_addStone_0.2.2.2.2.2.2.2.2.1
theorem dX4_addStone_16 : decode cX4_addStone 16 = .ok (.aload_n 0, 1) := dgX4_addStone_0.2.2.2.2.2.2.2.2.2.1
theorem dX4_addStone_17 : decode cX4_addStone 17 = .ok (.getfield 9, 3) := dgX4_addStone_0.2.2.2.2.2.2.2.2.2.2.1
theorem dX4_addStone_20 : decode cX4_addStone 20 = .ok (.iload 4, 2) := dgX4_addStone_0.2.2.2.2.2.2.2.2.2.2.2.1
theorem dX4_addStone_22 : decode cX4_addStone 22 = .ok (.iload_n 1, 1) := dgX4_addStone_0.2.2.2.2.2.2.2.2.2.2.2.2.1
theorem dX4_addStone_23 : decode cX4_addStone 23 = .ok (.iastore, 1) := dgX4_addStone_0.2.2.2.2.2.2.2.2.2.2.2.2.2.1
theorem dX4_addStone_24 : decode cX4_addStone 24 = .ok (.aload_n 0, 1) := dgX4_addStone_0.2.2.2.2.2.2.2.2.2.2.2.2.2.2.1
theorem dX4_addStone_25 : decode cX4_addStone 25 = .ok (.getfield 15, 3) := dgX4_addStone_0.2.2.2.2.2.2.2.2.2.2.2.2.2.2.2
theorem dgX4_addStone_1 : decode cX4_addStone 28 = .ok (.iload 4, 2) ∧ decode cX4_addStone 30 = .ok (.iload_n 2, 1) ∧ decode cX4_addStone 31 = .ok (.iastore, 1) ∧ decode cX4_addStone 32 = .ok (.aload_n 0, 1) ∧ decode cX4_addStone 33 = .ok (.getfield 18, 3) ∧ decode cX4_addStone 36 = .ok (.iload 4, 2) ∧ decode cX4_addStone 38 = .ok (.iload_n 3, 1) ∧ decode cX4_addStone 39 = .ok (.iastore, 1) ∧ decode cX4_addStone 40 = .ok (.aload_n 0, 1) ∧ decode cX4_addStone 41 = .ok (.getfield 21, 3) ∧ decode cX4_addStone 44 = .ok (.iload 4, 2) ∧ decode cX4_addStone 46 = .ok (.bipush 12, 2) ∧ decode cX4_addStone 48 = .ok (.iastore, 1) ∧ decode cX4_addStone 49 = .ok (.aload_n 0, 1) ∧ decode cX4_addStone 50 = .ok (.getfield 24, 3) ∧ decode cX4_addStone 53 = .ok (.iload 4, 2) := by decide +kernel
theorem dX4_addStone_28 : decode cX4_addStone 28 = .ok (.iload 4, 2) := dgX4_addStone_1.1
theorem dX4_addStone_30 : decode cX4_addStone 30 = .ok (.iload_n 2, 1) := dgX4_addStone_1.2.1
theorem dX4_addStone_31 : decode cX4_addStone 31 = .ok (.iastore, 1) := dgX4_addStone_1.2.2.1
theorem dX4_addStone_32 : decode cX4_addStone 32 = .ok (.aload_n 0, 1) := dgX4_addStone_1.2.2.2.1
theorem dX4_addStone_33 : decode cX4_addStone 33 = .ok (.getfield 18, 3) := dgX4_addStone_1.2.2.2.2.1
theorem dX4_addStone_36 : decode cX4_addStone 36 = .ok (.iload 4, 2) := dgX4_addStone_1.2.2.2.2.2.1
theorem dX4_addStone_38 : decode cX4_addStone 38 = .ok (.iload_n 3, 1) := dgX4_addStone_1.2.2.2.2.2.2.1
theorem dX4_addStone_39 : decode cX4_addStone 39 = .ok (.iastore, 1) := dgX4_addStone_1.2.2.2.2.2.2.2.1
theorem dX4_addStone_40 : decode cX4_addStone 40 = .ok (.aload_n 0, 1) := dgX4_addStone_1.2.2.2.2.2.2.2.2.1
theorem dX4_addStone_41 : decode cX4_addStone 41 = .ok (.getfield 21, 3) := dgX4_addStone_1.2.2.2.2.2.2.2.2.2.1
theorem dX4_addStone_44 : decode cX4_addStone 44 = .ok (.iload 4, 2) := dgX4_addStone_1.2.2.2.2.2.2.2.2.2.2.1
theorem dX4_addStone_46 : decode cX4_addStone 46 = .ok (.bipush 12, 2) := dgX4_addStone_1.2.2.2.2.2.2.2.2.2.2.2.1
theorem dX4_addStone_48 : decode cX4_addStone 48 = .ok (.iastore, 1) := dgX4_addStone_1.2.2.2.2.2.2.2.2.2.2.2.2.1
theorem dX4_addStone_49 : decode cX4_addStone 49 = .ok (.aload_n 0, 1) := dgX4_addStone_1.2.2.2.2.2.2.2.2.2.2.2.2.2.1
theorem dX4_addStone_50 : decode cX4_addStone 50 = .ok (.getfield 24, 3) := dgX4_addStone_1.2.2.2.2.2.2.2.2.2.2.2.2.2.2.1
theorem dX4_addStone_53 : decode cX4_addStone 53 = .ok (.iload 4, 2) := dgX4_addStone_1.2.2.2.2.2.2.2.2.2.2.2.2.2.2.2
theorem dgX4_addStone_2 : decode cX4_addStone 55 = .ok (.iconst 0, 1) ∧ decode cX4_addStone 56 = .ok (.iastore, 1) ∧ decode cX4_addStone 57 = .ok (.aload_n 0, 1) ∧ decode cX4_addStone 58 = .ok (.iload 4, 2) ∧ decode cX4_addStone 60 = .ok (.invokevirtual 73, 3) ∧ decode cX4_addStone 63 = .ok (.iload 4, 2) ∧ decode cX4_addStone 65 = .ok (.ireturn, 1) := by decide +kernel
theorem dX4_addStone_55 : decode cX4_addStone 55 = .ok (.iconst 0, 1) := dgX4_addStone_2.1
theorem dX4_addStone_56 : decode cX4_addStone 56 = .ok (.iastore, 1) := dgX4_addStone_2.2.1
theorem dX4_addStone_57 : decode cX4_addStone 57 = .ok (.aload_n 0, 1) := dgX4_addStone_2.2.2.1
theorem dX4_addStone_58 : decode cX4_addStone 58 = .ok (.iload 4, 2) := dgX4_addStone_2.2.2.2.1
theorem dX4_addStone_60 : decode cX4_addStone 60 = .ok (.invokevirtual 73, 3) := dgX4_addStone_2.2.2.2.2.1
theorem dX4_addStone_63 : decode cX4_addStone 63 = .ok (.iload 4, 2) := dgX4_addStone_2.2.2.2.2.2.1
theorem dX4_addStone_65 : decode cX4_addStone 65 = .ok (.ireturn, 1) := dgX4_addStone_2.2.2.2.2.2.2
abbrev pX4_addStone : List Nat := [0]
def bX4_addStone_0 (cal : ab_F) : ab_K := o_aload 0 <| o_getf 3 10 <| o_istore 4 <| o_aload 0 <| o_dup <| o_getf 3 10 <| o_push (.int 1) <| o_bin (fun x y => x + y) <| o_putI 3 10 <| o_aload 0 <| o_getf 3 0 <| o_iload 4 <| o_iload 1 <| o_iast 0 (fun x => x) <| o_aload 0 <| o_getf 3 1 <| o_iload 4 <| o_iload 2 <| o_iast 0 (fun x => x) <| o_aload 0 <| o_getf 3 2 <| o_iload 4 <| o_iload 3 <| o_iast 0 (fun x => x) <| o_aload 0 <| o_getf 3 3 <| o_iload 4 <| o_push (.int 12) <| o_iast 0 (fun x => x) <| o_aload 0 <| o_getf 3 4 <| o_iload 4 <| o_push (.int 0) <| o_iast 0 (fun x => x) <| o_aload 0 <| o_iload 4 <| o_callV cal 37 1 3 <| o_iload 4 <| o_ret (some .int)
def bX4_addStone (cal : ab_F) : List ab_K := [bX4_addStone_0 cal]
set_option maxRecDepth 100000 in
theorem sX4_addStone_0 {G : ab_G} {xs : List Int32} {d : Nat} {cal : ab_F} (hcs : ab_CS G (ab_Z G xs) ab_Mf cal d) : ab_Sd G (ab_Z G xs) (d + 1) (ab_mY mX4_addStone pX4_addStone) 0 (bX4_addStone_0 cal) :=
  sn_aload_n dX4_addStone_0 rfl <| sn_getf dX4_addStone_1 rfl hinX4 (by decide) w_113 <| sn_istore dX4_addStone_4 (by decide) <| sn_aload_n dX4_addStone_6 rfl <| sn_dup dX4_addStone_7 <| sn_getf dX4_addStone_8 rfl hinX4 (by decide) w_113 <| sn_iconst dX4_addStone_11 rfl <| sn_iadd dX4_addStone_12 <| sn_putI tyX4 tyX4_ok nmX4 dX4_addStone_13 rfl hinX4 (by decide) w_113 (Or.inl rfl) (tyX4_ok 10 (by decide)) <| sn_aload_n dX4_addStone_16 rfl <| sn_getf dX4_addStone_17 rfl hinX4 (by decide) w_93 <| sn_iload dX4_addStone_20 <| sn_iload_n dX4_addStone_22 rfl <| sn_iast dX4_addStone_23 rfl rfl <| sn_aload_n dX4_addStone_24 rfl <| sn_getf dX4_addStone_25 rfl hinX4 (by decide) w_95 <| sn_iload dX4_addStone_28 <| sn_iload_n dX4_addStone_30 rfl <| sn_iast dX4_addStone_31 rfl rfl <| sn_aload_n dX4_addStone_32 rfl <| sn_getf dX4_addStone_33 rfl hinX4 (by decide) w_97 <| sn_iload dX4_addStone_36 <| sn_iload_n dX4_addStone_38 rfl <| sn_iast dX4_addStone_39 rfl rfl <| sn_aload_n dX4_addStone_40 rfl <| sn_getf dX4_addStone_41 rfl hinX4 (by decide) w_99 <| sn_iload dX4_addStone_44 <| sn_bipush dX4_addStone_46 rfl <| sn_iast dX4_addStone_48 rfl rfl <| sn_aload_n dX4_addStone_49 rfl <| sn_getf dX4_addStone_50 rfl hinX4 (by decide) w_102 <| sn_iload dX4_addStone_53 <| sn_iconst dX4_addStone_55 rfl <| sn_iast dX4_addStone_56 rfl rfl <| sn_aload_n dX4_addStone_57 rfl <| sn_iload dX4_addStone_58 <| sq_callV mt_37 hcs dX4_addStone_60 rfl w_329 w_330 w_331 w_56 w_332 hy_37 hm_37 <| sn_iload dX4_addStone_63 <| sn_ret dX4_addStone_65 ab_ri_int
theorem sX4_addStone {G : ab_G} {xs : List Int32} {d : Nat} {cal : ab_F} (hcs : ab_CS G (ab_Z G xs) ab_Mf cal d) : ab_BS G (ab_Z G xs) (d + 1) (ab_mY mX4_addStone pX4_addStone) pX4_addStone (bX4_addStone cal) := ⟨sX4_addStone_0 hcs, trivial⟩
theorem dgX4_drawStone_0 : decode cX4_drawStone 0 = .ok (.aload_n 0, 1) ∧ decode cX4_drawStone 1 = .ok (.invokevirtual 77, 3) ∧ decode cX4_drawStone 4 = .ok (.bipush 6, 2) ∧ decode cX4_drawStone 6 = .ok (.irem, 1) ∧ decode cX4_drawStone 7 = .ok (.istore_n 1, 1) ∧ decode cX4_drawStone 8 = .ok (.aload_n 0, 1) ∧ decode cX4_drawStone 9 = .ok (.invokevirtual 77, 3) ∧ decode cX4_drawStone 12 = .ok (.bipush 7, 2) ∧ decode cX4_drawStone 14 = .ok (.irem, 1) ∧ decode cX4_drawStone 15 = .ok (.istore_n 2, 1) ∧ decode cX4_drawStone 16 = .ok (.aload_n 0, 1) ∧ decode cX4_drawStone 17 = .ok (.invokevirtual 77, 3) ∧ decode cX4_drawStone 20 = .ok (.bipush 7, 2) ∧ decode cX4_drawStone 22 = .ok (.irem, 1) ∧ decode cX4_drawStone 23 = .ok (.istore_n 3, 1) ∧ decode cX4_drawStone 24 = .ok (.aload_n 0, 1) := by decide +kernel
theorem dX4_drawStone_0 : decode cX4_drawStone 0 = .ok (.aload_n 0, 1) := dgX4_drawStone_0.1
theorem dX4_drawStone_1 : decode cX4_drawStone 1 = .ok (.invokevirtual 77, 3) := dgX4_drawStone_0.2.1
theorem dX4_drawStone_4 : decode cX4_drawStone 4 = .ok (.bipush 6, 2) := dgX4_drawStone_0.2.2.1
theorem dX4_drawStone_6 : decode cX4_drawStone 6 = .ok (.irem, 1) := dgX4_drawStone_0.2.2.2.1
theorem dX4_drawStone_7 : decode cX4_drawStone 7 = .ok (.istore_n 1, 1) := dgX4_drawStone_0.2.2.2.2.1
theorem dX4_drawStone_8 : decode cX4_drawStone 8 = .ok (.aload_n 0, 1) := dgX4_drawStone_0.2.2.2.2.2.1
theorem dX4_drawStone_9 : decode cX4_drawStone 9 = .ok (.invokevirtual 77, 3) := dgX4_drawStone_0.2.2.2.2.2.2.1
theorem dX4_drawStone_12 : decode cX4_drawStone 12 = .ok (.bipush 7, 2) := dgX4_drawStone_0.2.2.2.2.2.2.2.1
theorem dX4_drawStone_14 : decode cX4_drawStone 14 = .ok (.irem, 1) := dgX4_drawStone_0.2.2.2.2.2.2.2.2.1
theorem dX4_drawStone_15 : decode cX4_drawStone 15 = .ok (.istore_n 2, 1) := dgX4_drawStone_0.2.2.2.2.2.2.2.2.2.1
theorem dX4_drawStone_16 : decode cX4_drawStone 16 = .ok (.aload_n 0, 1) := dgX4_drawStone_0.2.2.2.2.2.2.2.2.2.2.1
theorem dX4_drawStone_17 : decode cX4_drawStone 17 = .ok (.invokevirtual 77, 3) := dgX4_drawStone_0.2.2.2.2.2.2.2.2.2.2.2.1
theorem dX4_drawStone_20 : decode cX4_drawStone 20 = .ok (.bipush 7, 2) := dgX4_drawStone_0.2.2.2.2.2.2.2.2.2.2.2.2.1
theorem dX4_drawStone_22 : decode cX4_drawStone 22 = .ok (.irem, 1) := dgX4_drawStone_0.2.2.2.2.2.2.2.2.2.2.2.2.2.1
theorem dX4_drawStone_23 : decode cX4_drawStone 23 = .ok (.istore_n 3, 1) := dgX4_drawStone_0.2.2.2.2.2.2.2.2.2.2.2.2.2.2.1
theorem dX4_drawStone_24 : decode cX4_drawStone 24 = .ok (.aload_n 0, 1) := dgX4_drawStone_0.2.2.2.2.2.2.2.2.2.2.2.2.2.2.2
theorem dgX4_drawStone_1 : decode cX4_drawStone 25 = .ok (.iload_n 1, 1) ∧ decode cX4_drawStone 26 = .ok (.iload_n 2, 1) ∧ decode cX4_drawStone 27 = .ok (.iload_n 3, 1) ∧ decode cX4_drawStone 28 = .ok (.invokevirtual 81, 3) ∧ decode cX4_drawStone 31 = .ok (.pop, 1) ∧ decode cX4_drawStone 32 = .ok (.return_, 1) := by decide +kernel
theorem dX4_drawStone_25 : decode cX4_drawStone 25 = .ok (.iload_n 1, 1) := dgX4_drawStone_1.1
theorem dX4_drawStone_26 : decode cX4_drawStone 26 = .ok (.iload_n 2, 1) := dgX4_drawStone_1.2.1
theorem dX4_drawStone_27 : decode cX4_drawStone 27 = .ok (.iload_n 3, 1) := dgX4_drawStone_1.2.2.1
theorem dX4_drawStone_28 : decode cX4_drawStone 28 = .ok (.invokevirtual 81, 3) := dgX4_drawStone_1.2.2.2.1
theorem dX4_drawStone_31 : decode cX4_drawStone 31 = .ok (.pop, 1) := dgX4_drawStone_1.2.2.2.2.1
theorem dX4_drawStone_32 : decode cX4_drawStone 32 = .ok (.return_, 1) := dgX4_drawStone_1.2.2.2.2.2
abbrev pX4_drawStone : List Nat := [0]
def bX4_drawStone_0 (cal : ab_F) : ab_K := o_aload 0 <| o_callV cal 33 0 3 <| o_push (.int 6) <| o_div (fun x y => x - x / y * y) <| o_istore 1 <| o_aload 0 <| o_callV cal 33 0 3 <| o_push (.int 7) <| o_div (fun x y => x - x / y * y) <| o_istore 2 <| o_aload 0 <| o_callV cal 33 0 3 <| o_push (.int 7) <| o_div (fun x y => x - x / y * y) <| o_istore 3 <| o_aload 0 <| o_iload 1 <| o_iload 2 <| o_iload 3 <| o_callV cal 31 3 3 <| o_pop <| o_ret none
def bX4_drawStone (cal : ab_F) : List ab_K := [bX4_drawStone_0 cal]
set_option maxRecDepth 100000 in
theorem sX4_drawStone_0 {G : ab_G} {xs : List Int32} {d : Nat} {cal : ab_F} (hcs : ab_CS G (ab_Z G xs) ab_Mf cal d) : ab_Sd G (ab_Z G xs) (d + 1) (ab_mY mX4_drawStone pX4_drawStone) 0 (bX4_drawStone_0 cal) :=
  sn_aload_n dX4_drawStone_0 rfl <| sq_callV mt_33 hcs dX4_drawStone_1 rfl w_456 w_457 w_458 w_56 w_459 hy_33 hm_33 <| sn_bipush dX4_drawStone_4 rfl <| sn_irem dX4_drawStone_6 <| sn_istore_n dX4_drawStone_7 rfl (by decide) <| sn_aload_n dX4_drawStone_8 rfl <| sq_callV mt_33 hcs dX4_drawStone_9 rfl w_456 w_457 w_458 w_56 w_459 hy_33 hm_33 <| sn_bipush dX4_drawStone_12 rfl <| sn_irem dX4_drawStone_14 <| sn_istore_n dX4_drawStone_15 rfl (by decide) <| sn_aload_n dX4_drawStone_16 rfl <| sq_callV mt_33 hcs dX4_drawStone_17 rfl w_456 w_457 w_458 w_56 w_459 hy_33 hm_33 <| sn_bipush dX4_drawStone_20 rfl <| sn_irem dX4_drawStone_22 <| sn_istore_n dX4_drawStone_23 rfl (by decide) <| sn_aload_n dX4_drawStone_24 rfl <| sn_iload_n dX4_drawStone_25 rfl <| sn_iload_n dX4_drawStone_26 rfl <| sn_iload_n dX4_drawStone_27 rfl <| sq_callV mt_31 hcs dX4_drawStone_28 rfl w_461 w_326 w_327 w_56 w_328 hy_31 hm_31 <| sn_pop dX4_drawStone_31 <| sn_ret dX4_drawStone_32 ab_ri_void
theorem sX4_drawStone {G : ab_G} {xs : List Int32} {d : Nat} {cal : ab_F} (hcs : ab_CS G (ab_Z G xs) ab_Mf cal d) : ab_BS G (ab_Z G xs) (d + 1) (ab_mY mX4_drawStone pX4_drawStone) pX4_drawStone (bX4_drawStone cal) := ⟨sX4_drawStone_0 hcs, trivial⟩
theorem dgX4_draw_0 : decode cX4_draw 0 = .ok (.aload_n 0, 1) ∧ decode cX4_draw 1 = .ok (.aload_n 0, 1) ∧ decode cX4_draw 2 = .ok (.getfield 45, 3) ∧ decode cX4_draw 5 = .ok (.ldc 85, 2) ∧ decode cX4_draw 7 = .ok (.imul, 1) ∧ decode cX4_draw 8 = .ok (.sipush 12345, 3) ∧ decode cX4_draw 11 = .ok (.iadd, 1) ∧ decode cX4_draw 12 = .ok (.putfield 45, 3) ∧ decode cX4_draw 15 = .ok (.aload_n 0, 1) ∧ decode cX4_draw 16 = .ok (.getfield 45, 3) ∧ decode cX4_draw 19 = .ok (.bipush 8, 2) ∧ decode cX4_draw 21 = .ok (.iushr, 1) ∧ decode cX4_draw 22 = .ok (.ireturn, 1) := by decide +kernel
theorem dX4_draw_0 : decode cX4_draw 0 = .ok (.aload_n 0, 1) := dgX4_draw_0.1
theorem dX4_draw_1 : decode cX4_draw 1 = .ok (.aload_n 0, 1) := dgX4_draw_0.2.1
theorem dX4_draw_2 : decode cX4_draw 2 = .ok (.getfield 45, 3) := dgX4_draw_0.2.2.1
theorem dX4_draw_5 : decode cX4_draw 5 = .ok (.ldc 85, 2) := dgX4_draw_0.2.2.2.1
theorem dX4_draw_7 : decode cX4_draw 7 = .ok (.imul, 1) := dgX4_draw_0.2.2.2.2.1
theorem dX4_draw_8 : decode cX4_draw 8 = .ok (.sipush 12345, 3) := dgX4_draw_0.2.2.2.2.2.1
theorem dX4_draw_11 : decode cX4_draw 11 = .ok (.iadd, 1) := dgX4_draw_0.2.2.2.2.2.2.1
theorem dX4_draw_12 : decode cX4_draw 12 = .ok (.putfield 45, 3) := dgX4_draw_0.2.2.2.2.2.2.2.1
theorem dX4_draw_15 : decode cX4_draw 15 = .ok (.aload_n 0, 1) := dgX4_draw_0.2.2.2.2.2.2.2.2.1
theorem dX4_draw_16 : decode cX4_draw 16 = .ok (.getfield 45, 3) := dgX4_draw_0.2.2.2.2.2.2.2.2.2.1
theorem dX4_draw_19 : decode cX4_draw 19 = .ok (.bipush 8, 2) := dgX4_draw_0.2.2.2.2.2.2.2.2.2.2.1
theorem dX4_draw_21 : decode cX4_draw 21 = .ok (.iushr, 1) := dgX4_draw_0.2.2.2.2.2.2.2.2.2.2.2.1
theorem dX4_draw_22 : decode cX4_draw 22 = .ok (.ireturn, 1) := dgX4_draw_0.2.2.2.2.2.2.2.2.2.2.2.2
abbrev pX4_draw : List Nat := [0]
def bX4_draw_0 (cal : ab_F) : ab_K := o_aload 0 <| o_aload 0 <| o_getf 3 14 <| o_push (.int 1103515245) <| o_bin (fun x y => x * y) <| o_push (.int 12345) <| o_bin (fun x y => x + y) <| o_putI 3 14 <| o_aload 0 <| o_getf 3 14 <| o_push (.int 8) <| o_bin (fun x y => (x.toUInt32 >>> (y.toUInt32 &&& Int32.toUInt32 31)).toInt32) <| o_ret (some .int)
def bX4_draw (cal : ab_F) : List ab_K := [bX4_draw_0 cal]
set_option maxRecDepth 100000 in
theorem sX4_draw_0 {G : ab_G} {xs : List Int32} {d : Nat} {cal : ab_F} (hcs : ab_CS G (ab_Z G xs) ab_Mf cal d) : ab_Sd G (ab_Z G xs) (d + 1) (ab_mY mX4_draw pX4_draw) 0 (bX4_draw_0 cal) :=
  sn_aload_n dX4_draw_0 rfl <| sn_aload_n dX4_draw_1 rfl <| sn_getf dX4_draw_2 rfl hinX4 (by decide) w_121 <| sn_ldc dX4_draw_5 w_460 <| sn_imul dX4_draw_7 <| sn_sipush dX4_draw_8 rfl <| sn_iadd dX4_draw_11 <| sn_putI tyX4 tyX4_ok nmX4 dX4_draw_12 rfl hinX4 (by decide) w_121 (Or.inl rfl) (tyX4_ok 14 (by decide)) <| sn_aload_n dX4_draw_15 rfl <| sn_getf dX4_draw_16 rfl hinX4 (by decide) w_121 <| sn_bipush dX4_draw_19 rfl <| sn_iushr dX4_draw_21 <| sn_ret dX4_draw_22 ab_ri_int
theorem sX4_draw {G : ab_G} {xs : List Int32} {d : Nat} {cal : ab_F} (hcs : ab_CS G (ab_Z G xs) ab_Mf cal d) : ab_BS G (ab_Z G xs) (d + 1) (ab_mY mX4_draw pX4_draw) pX4_draw (bX4_draw cal) := ⟨sX4_draw_0 hcs, trivial⟩
theorem dgX4_textAt_0 : decode cX4_textAt 0 = .ok (.iload_n 1, 1) ∧ decode cX4_textAt 1 = .ok (.iconst 0, 1) ∧ decode cX4_textAt 2 = .ok (.aload_n 0, 1) ∧ decode cX4_textAt 3 = .ok (.getfield 64, 3) ∧ decode cX4_textAt 6 = .ok (.iconst 1, 1) ∧ decode cX4_textAt 7 = .ok (.isub, 1) ∧ decode cX4_textAt 8 = .ok (.invokestatic 86, 3) ∧ decode cX4_textAt 11 = .ok (.ifCond .eq 12, 3) ∧ decode cX4_textAt 14 = .ok (.aload_n 0, 1) ∧ decode cX4_textAt 15 = .ok (.getfield 38, 3) ∧ decode cX4_textAt 18 = .ok (.iload_n 1, 1) ∧ decode cX4_textAt 19 = .ok (.aaload, 1) ∧ decode cX4_textAt 20 = .ok (.goto 4, 3) ∧ decode cX4_textAt 23 = .ok (.aconst_null, 1) ∧ decode cX4_textAt 24 = .ok (.areturn, 1) := by decide +kernel
theorem dX4_textAt_0 : decode cX4_textAt 0 = .ok (.iload_n 1, 1) := dgX4_textAt_0.1
theorem dX4_textAt_1 : decode cX4_textAt 1 = .ok (.iconst 0, 1) := dgX4_textAt_0.2.1
theorem dX4_textAt_2 : decode cX4_textAt 2 = .ok (.aload_n 0, 1) := dgX4_textAt_0.2.2.1
theorem dX4_textAt_3 : decode cX4_textAt 3 = .ok (.getfield 64, 3) := dgX4_textAt_0.2.2.2.1
theorem dX4_textAt_6 : decode cX4_textAt 6 = .ok (.iconst 1, 1) := dgX4_textAt_0.2.2.2.2.1
theorem dX4_textAt_7 : decode cX4_textAt 7 = .ok (.isub, 1) := dgX4_textAt_0.2.2.2.2.2.1
theorem dX4_textAt_8 : decode cX4_textAt 8 = .ok (.invokestatic 86, 3) := dgX4_textAt_0.2.2.2.2.2.2.1
theorem dX4_textAt_11 : decode cX4_textAt 11 = .ok (.ifCond .eq 12, 3) := dgX4_textAt_0.2.2.2.2.2.2.2.1
theorem dX4_textAt_14 : decode cX4_textAt 14 = .ok (.aload_n 0, 1) := dgX4_textAt_0.2.2.2.2.2.2.2.2.1
theorem dX4_textAt_15 : decode cX4_textAt 15 = .ok (.getfield 38, 3) := dgX4_textAt_0.2.2.2.2.2.2.2.2.2.1
theorem dX4_textAt_18 : decode cX4_textAt 18 = .ok (.iload_n 1, 1) := dgX4_textAt_0.2.2.2.2.2.2.2.2.2.2.1
theorem dX4_textAt_19 : decode cX4_textAt 19 = .ok (.aaload, 1) := dgX4_textAt_0.2.2.2.2.2.2.2.2.2.2.2.1
theorem dX4_textAt_20 : decode cX4_textAt 20 = .ok (.goto 4, 3) := dgX4_textAt_0.2.2.2.2.2.2.2.2.2.2.2.2.1
theorem dX4_textAt_23 : decode cX4_textAt 23 = .ok (.aconst_null, 1) := dgX4_textAt_0.2.2.2.2.2.2.2.2.2.2.2.2.2.1
theorem dX4_textAt_24 : decode cX4_textAt 24 = .ok (.areturn, 1) := dgX4_textAt_0.2.2.2.2.2.2.2.2.2.2.2.2.2.2
abbrev pX4_textAt : List Nat := [0, 23, 24]
def bX4_textAt_0 (cal : ab_F) : ab_K := o_iload 1 <| o_push (.int 0) <| o_aload 0 <| o_getf 3 11 <| o_push (.int 1) <| o_bin (fun x y => x - y) <| o_callS cal 123 3 <| o_if (fun x => decide (x = 0)) 1 <| o_aload 0 <| o_getf 3 8 <| o_iload 1 <| o_aald 5 <| o_goto 2
def bX4_textAt_1 (cal : ab_F) : ab_K := o_push .null <| o_goto 2
def bX4_textAt_2 (cal : ab_F) : ab_K := o_ret (some (.object "DominoKing$Text"))
def bX4_textAt (cal : ab_F) : List ab_K := [bX4_textAt_0 cal, bX4_textAt_1 cal, bX4_textAt_2 cal]
set_option maxRecDepth 100000 in
theorem sX4_textAt_0 {G : ab_G} {xs : List Int32} {d : Nat} {cal : ab_F} (hcs : ab_CS G (ab_Z G xs) ab_Mf cal d) : ab_Sd G (ab_Z G xs) (d + 1) (ab_mY mX4_textAt pX4_textAt) 0 (bX4_textAt_0 cal) :=
  sn_iload_n dX4_textAt_0 rfl <| sn_iconst dX4_textAt_1 rfl <| sn_aload_n dX4_textAt_2 rfl <| sn_getf dX4_textAt_3 rfl hinX4 (by decide) w_115 <| sn_iconst dX4_textAt_6 rfl <| sn_isub dX4_textAt_7 <| sq_callSN mt_123 hcs dX4_textAt_8 zn_5 w_321 w_55 w_322 hy_123 hm_123 <| sn_if_eq (tg := 23) dX4_textAt_11 rfl rfl <| sn_aload_n dX4_textAt_14 rfl <| sn_getf dX4_textAt_15 rfl hinX4 (by decide) w_109 <| sn_iload_n dX4_textAt_18 rfl <| sn_aald dX4_textAt_19 rfl <| sn_goto (tg := 24) dX4_textAt_20 rfl rfl
set_option maxRecDepth 100000 in
theorem sX4_textAt_1 {G : ab_G} {xs : List Int32} {d : Nat} {cal : ab_F} (hcs : ab_CS G (ab_Z G xs) ab_Mf cal d) : ab_Sd G (ab_Z G xs) (d + 1) (ab_mY mX4_textAt pX4_textAt) 23 (bX4_textAt_1 cal) :=
  sn_null dX4_textAt_23 <| sn_next rfl
set_option maxRecDepth 100000 in
theorem sX4_textAt_2 {G : ab_G} {xs : List Int32} {d : Nat} {cal : ab_F} (hcs : ab_CS G (ab_Z G xs) ab_Mf cal d) : ab_Sd G (ab_Z G xs) (d + 1) (ab_mY mX4_textAt pX4_textAt) 24 (bX4_textAt_2 cal) :=
  sn_ret dX4_textAt_24 ab_ri_obj
theorem sX4_textAt {G : ab_G} {xs : List Int32} {d : Nat} {cal : ab_F} (hcs : ab_CS G (ab_Z G xs) ab_Mf cal d) : ab_BS G (ab_Z G xs) (d + 1) (ab_mY mX4_textAt pX4_textAt) pX4_textAt (bX4_textAt cal) := ⟨sX4_textAt_0 hcs, sX4_textAt_1 hcs, sX4_textAt_2 hcs, trivial⟩
theorem dgX4_law_0 : decode cX4_law 0 = .ok (.aload_n 0, 1) ∧ decode cX4_law 1 = .ok (.aload_n 0, 1) ∧ decode cX4_law 2 = .ok (.getfield 42, 3) ∧ decode cX4_law 5 = .ok (.iload_n 1, 1) ∧ decode cX4_law 6 = .ok (.iaload, 1) ∧ decode cX4_law 7 = .ok (.invokevirtual 90, 3) ∧ decode cX4_law 10 = .ok (.areturn, 1) := by decide +kernel
theorem dX4_law_0 : decode cX4_law 0 = .ok (.aload_n 0, 1) := dgX4_law_0.1
theorem dX4_law_1 : decode cX4_law 1 = .ok (.aload_n 0, 1) := dgX4_law_0.2.1
theorem dX4_law_2 : decode cX4_law 2 = .ok (.getfield 42, 3) := dgX4_law_0.2.2.1
theorem dX4_law_5 : decode cX4_law 5 = .ok (.iload_n 1, 1) := dgX4_law_0.2.2.2.1
theorem dX4_law_6 : decode cX4_law 6 = .ok (.iaload, 1) := dgX4_law_0.2.2.2.2.1
theorem dX4_law_7 : decode cX4_law 7 = .ok (.invokevirtual 90, 3) := dgX4_law_0.2.2.2.2.2.1
theorem dX4_law_10 : decode cX4_law 10 = .ok (.areturn, 1) := dgX4_law_0.2.2.2.2.2.2
abbrev pX4_law : List Nat := [0]
def bX4_law_0 (cal : ab_F) : ab_K := o_aload 0 <| o_aload 0 <| o_getf 3 9 <| o_iload 1 <| o_iald 0 <| o_callV cal 34 1 3 <| o_ret (some (.object "DominoKing$Text"))
def bX4_law (cal : ab_F) : List ab_K := [bX4_law_0 cal]
set_option maxRecDepth 100000 in
theorem sX4_law_0 {G : ab_G} {xs : List Int32} {d : Nat} {cal : ab_F} (hcs : ab_CS G (ab_Z G xs) ab_Mf cal d) : ab_Sd G (ab_Z G xs) (d + 1) (ab_mY mX4_law pX4_law) 0 (bX4_law_0 cal) :=
  sn_aload_n dX4_law_0 rfl <| sn_aload_n dX4_law_1 rfl <| sn_getf dX4_law_2 rfl hinX4 (by decide) w_110 <| sn_iload_n dX4_law_5 rfl <| sn_iald dX4_law_6 rfl <| sq_callV mt_34 hcs dX4_law_7 rfl w_337 w_338 w_339 w_56 w_340 hy_34 hm_34 <| sn_ret dX4_law_10 ab_ri_obj
theorem sX4_law {G : ab_G} {xs : List Int32} {d : Nat} {cal : ab_F} (hcs : ab_CS G (ab_Z G xs) ab_Mf cal d) : ab_BS G (ab_Z G xs) (d + 1) (ab_mY mX4_law pX4_law) pX4_law (bX4_law cal) := ⟨sX4_law_0 hcs, trivial⟩
theorem dgX4_addText_0 : decode cX4_addText 0 = .ok (.aload_n 0, 1) ∧ decode cX4_addText 1 = .ok (.getfield 64, 3) ∧ decode cX4_addText 4 = .ok (.istore_n 2, 1) ∧ decode cX4_addText 5 = .ok (.aload_n 0, 1) ∧ decode cX4_addText 6 = .ok (.dup, 1) ∧ decode cX4_addText 7 = .ok (.getfield 64, 3) ∧ decode cX4_addText 10 = .ok (.iconst 1, 1) ∧ decode cX4_addText 11 = .ok (.iadd, 1) ∧ decode cX4_addText 12 = .ok (.putfield 64, 3) ∧ decode cX4_addText 15 = .ok (.aload_n 0, 1) ∧ decode cX4_addText 16 = .ok (.getfield 38, 3) ∧ decode cX4_addText 19 = .ok (.iload_n 2, 1) ∧ decode cX4_addText 20 = .ok (.aload_n 1, 1) ∧ decode cX4_addText 21 = .ok (.aastore, 1) ∧ decode cX4_addText 22 = .ok (.aload_n 0, 1) ∧ decode cX4_addText 23 = .ok (.getfield 42, 3) := by decide +kernel
theorem dX4_addText_0 : decode cX4_addText 0 = .ok (.aload_n 0, 1) := dgX4_addText_0.1
theorem dX4_addText_1 : decode cX4_addText 1 = .ok (.getfield 64, 3) := dgX4_addText_0.2.1
theorem dX4_addText_4 : decode cX4_addText 4 = .ok (.istore_n 2, 1) := dgX4_addText_0.2.2.1
theorem dX4_addText_5 : decode cX4_addText 5 = .ok (.aload_n 0, 1) := dgX4_addText_0.2.2.2.1
theorem dX4_addText_6 : decode cX4_addText 6 = .ok (.dup, 1) := dgX4_addText_0.2.2.2.2.1
theorem dX4_addText_7 : decode cX4_addText 7 = .ok (.getfield 64, 3) := dgX4_addText_0.2.2.2.2.2.1
theorem dX4_addText_10 : decode cX4_addText 10 = .ok (.iconst 1, 1) := dgX4_addText_0.2.2.2.2.2.2.1
theorem dX4_addText_11 : decode cX4_addText 11 = .ok (.iadd, 1) := dgX4_addText_0.2.2.2.2.2.2.2.1
theorem dX4_addText_12 : decode cX4_addText 12 = .ok (.putfield 64, 3) := dgX4_addText_0.2.2.2.2.2.2.2.2.1
theorem dX4_addText_15 : decode cX4_addText 15 = .ok (.aload_n 0, 1) := dgX4_addText_0.2.2.2.2.2.2.2.2.2.1
theorem dX4_addText_16 : decode cX4_addText 16 = .ok (.getfield 38, 3) := dgX4_addText_0.2.2.2.2.2.2.2.2.2.2.1
theorem dX4_addText_19 : decode cX4_addText 19 = .ok (.iload_n 2, 1) := dgX4_addText_0.2.2.2.2.2.2.2.2.2.2.2.1
theorem dX4_addText_20 : decode cX4_addText 20 = .ok (.aload_n 1, 1) := dgX4_addText_0.2.2.2.2.2.2.2.2.2.2.2.2.1
theorem dX4_addText_21 : decode cX4_addText 21 = .ok (.aastore, 1) := dgX4_addText_0.2.2.2.2.2.2.2.2.2.2.2.2.2.1
theorem dX4_addText_22 : decode cX4_addText 22 = .ok (.aload_n 0, 1) := dgX4_addText_0.2.2.2.2.2.2.2.2.2.2.2.2.2.2.1
theorem dX4_addText_23 : decode cX4_addText 23 = .ok (.getfield 42, 3) := dgX4_addText_0.2.2.2.2.2.2.2.2.2.2.2.2.2.2.2
theorem dgX4_addText_1 : decode cX4_addText 26 = .ok (.aload_n 1, 1) ∧ decode cX4_addText 27 = .ok (.getfield 94, 3) ∧ decode cX4_addText 30 = .ok (.iload_n 2, 1) ∧ decode cX4_addText 31 = .ok (.iastore, 1) ∧ decode cX4_addText 32 = .ok (.aload_n 1, 1) ∧ decode cX4_addText 33 = .ok (.getfield 94, 3) ∧ decode cX4_addText 36 = .ok (.ifCond .ne 24, 3) ∧ decode cX4_addText 39 = .ok (.iconst 0, 1) ∧ decode cX4_addText 40 = .ok (.istore_n 3, 1) ∧ decode cX4_addText 41 = .ok (.iload_n 3, 1) ∧ decode cX4_addText 42 = .ok (.aload_n 0, 1) ∧ decode cX4_addText 43 = .ok (.getfield 61, 3) ∧ decode cX4_addText 46 = .ok (.if_icmp .ge 14, 3) ∧ decode cX4_addText 49 = .ok (.aload_n 0, 1) ∧ decode cX4_addText 50 = .ok (.iload_n 3, 1) ∧ decode cX4_addText 51 = .ok (.invokevirtual 73, 3) := by decide +kernel
theorem dX4_addText_26 : decode cX4_addText 26 = .ok (.aload_n 1, 1) := dgX4_addText_1.1
theorem dX4_addText_27 : decode cX4_addText 27 = .ok (.getfield 94, 3) := dgX4_addText_1.2.1
theorem dX4_addText_30 : decode cX4_addText 30 = .ok (.iload_n 2, 1) := dgX4_addText_1.2.2.1
theorem dX4_addText_31 : decode cX4_addText 31 = .ok (.iastore, 1) := dgX4_addText_1.2.2.2.1
theorem dX4_addText_32 : decode cX4_addText 32 = .ok (.aload_n 1, 1) := dgX4_addText_1.2.2.2.2.1
theorem dX4_addText_33 : decode cX4_addText 33 = .ok (.getfield 94, 3) := dgX4_addText_1.2.2.2.2.2.1
theorem dX4_addText_36 : decode cX4_addText 36 = .ok (.ifCond .ne 24, 3) := dgX4_addText_1.2.2.2.2.2.2.1
theorem dX4_addText_39 : decode cX4_addText 39 = .ok (.iconst 0, 1) := dgX4_addText_1.2.2.2.2.2.2.2.1
theorem dX4_addText_40 : decode cX4_addText 40 = .ok (.istore_n 3, 1) := dgX4_addText_1.2.2.2.2.2.2.2.2.1
theorem dX4_addText_41 : decode cX4_addText 41 = .ok (.iload_n 3, 1) := dgX4_addText_1.2.2.2.2.2.2.2.2.2.1
theorem dX4_addText_42 : decode cX4_addText 42 = .ok (.aload_n 0, 1) := dgX4_addText_1.2.2.2.2.2.2.2.2.2.2.1
theorem dX4_addText_43 : decode cX4_addText 43 = .ok (.getfield 61, 3) := dgX4_addText_1.2.2.2.2.2.2.2.2.2.2.2.1
theorem dX4_addText_46 : decode cX4_addText 46 = .ok (.if_icmp .ge 14, 3) := dgX4_addText_1.2.2.2.2.2.2.2.2.2.2.2.2.1
theorem dX4_addText_49 : decode cX4_addText 49 = .ok (.aload_n 0, 1) := dgX4_addText_1.2.2.2.2.2.2.2.2.2.2.2.2.2.1
theorem dX4_addText_50 : decode cX4_addText 50 = .ok (.iload_n 3, 1) := dgX4_addText_1.2.2.2.2.2.2.2.2.2.2.2.2.2.2.1
theorem dX4_addText_51 : decode cX4_addText 51 = .ok (.invokevirtual 73, 3) := dgX4_addText_1.2.2.2.2.2.2.2.2.2.2.2.2.2.2.2
theorem dgX4_addText_2 : decode cX4_addText 54 = .ok (.iinc 3 1, 3) ∧ decode cX4_addText 57 = .ok (.goto (-16), 3) ∧ decode cX4_addText 60 = .ok (.iload_n 2, 1) ∧ decode cX4_addText 61 = .ok (.ireturn, 1) := by decide +kernel
theorem dX4_addText_54 : decode cX4_addText 54 = .ok (.iinc 3 1, 3) := dgX4_addText_2.1
theorem dX4_addText_57 : decode cX4_addText 57 = .ok (.goto (-16), 3) := dgX4_addText_2.2.1
theorem dX4_addText_60 : decode cX4_addText 60 = .ok (.iload_n 2, 1) := dgX4_addText_2.2.2.1
theorem dX4_addText_61 : decode cX4_addText 61 = .ok (.ireturn, 1) := dgX4_addText_2.2.2.2
abbrev pX4_addText : List Nat := [0, 41, 60]
def bX4_addText_0 (cal : ab_F) : ab_K := o_aload 0 <| o_getf 3 11 <| o_istore 2 <| o_aload 0 <| o_dup <| o_getf 3 11 <| o_push (.int 1) <| o_bin (fun x y => x + y) <| o_putI 3 11 <| o_aload 0 <| o_getf 3 8 <| o_iload 2 <| o_aload 1 <| o_aast 5 5 <| o_aload 0 <| o_getf 3 9 <| o_aload 1 <| o_getf 5 0 <| o_iload 2 <| o_iast 0 (fun x => x) <| o_aload 1 <| o_getf 5 0 <| o_if (fun x => decide (¬ x = 0)) 2 <| o_push (.int 0) <| o_istore 3 <| o_goto 1
def bX4_addText_1 (cal : ab_F) : ab_K := o_iload 3 <| o_aload 0 <| o_getf 3 10 <| o_cmp (fun x y => decide (y ≤ x)) 2 <| o_aload 0 <| o_iload 3 <| o_callV cal 37 1 3 <| o_iinc 3 1 <| o_goto 1
def bX4_addText_2 (cal : ab_F) : ab_K := o_iload 2 <| o_ret (some .int)
def bX4_addText (cal : ab_F) : List ab_K := [bX4_addText_0 cal, bX4_addText_1 cal, bX4_addText_2 cal]
set_option maxRecDepth 100000 in
theorem sX4_addText_0 {G : ab_G} {xs : List Int32} {d : Nat} {cal : ab_F} (hcs : ab_CS G (ab_Z G xs) ab_Mf cal d) : ab_Sd G (ab_Z G xs) (d + 1) (ab_mY mX4_addText pX4_addText) 0 (bX4_addText_0 cal) :=
  sn_aload_n dX4_addText_0 rfl <| sn_getf dX4_addText_1 rfl hinX4 (by decide) w_115 <| sn_istore_n dX4_addText_4 rfl (by decide) <| sn_aload_n dX4_addText_5 rfl <| sn_dup dX4_addText_6 <| sn_getf dX4_addText_7 rfl hinX4 (by decide) w_115 <| sn_iconst dX4_addText_10 rfl <| sn_iadd dX4_addText_11 <| sn_putI tyX4 tyX4_ok nmX4 dX4_addText_12 rfl hinX4 (by decide) w_115 (Or.inl rfl) (tyX4_ok 11 (by decide)) <| sn_aload_n dX4_addText_15 rfl <| sn_getf dX4_addText_16 rfl hinX4 (by decide) w_109 <| sn_iload_n dX4_addText_19 rfl <| sn_aload_n dX4_addText_20 rfl <| sn_aast (q := (RX6, TX6, 5)) dX4_addText_21 rfl rfl <| sn_aload_n dX4_addText_22 rfl <| sn_getf dX4_addText_23 rfl hinX4 (by decide) w_110 <| sn_aload_n dX4_addText_26 rfl <| sn_getf dX4_addText_27 rfl hinX6 (by decide) w_856 <| sn_iload_n dX4_addText_30 rfl <| sn_iast dX4_addText_31 rfl rfl <| sn_aload_n dX4_addText_32 rfl <| sn_getf dX4_addText_33 rfl hinX6 (by decide) w_856 <| sn_if_ne (tg := 60) dX4_addText_36 rfl rfl <| sn_iconst dX4_addText_39 rfl <| sn_istore_n dX4_addText_40 rfl (by decide) <| sn_next rfl
set_option maxRecDepth 100000 in
theorem sX4_addText_1 {G : ab_G} {xs : List Int32} {d : Nat} {cal : ab_F} (hcs : ab_CS G (ab_Z G xs) ab_Mf cal d) : ab_Sd G (ab_Z G xs) (d + 1) (ab_mY mX4_addText pX4_addText) 41 (bX4_addText_1 cal) :=
  sn_iload_n dX4_addText_41 rfl <| sn_aload_n dX4_addText_42 rfl <| sn_getf dX4_addText_43 rfl hinX4 (by decide) w_113 <| sn_cmp_ge (tg := 60) dX4_addText_46 rfl rfl <| sn_aload_n dX4_addText_49 rfl <| sn_iload_n dX4_addText_50 rfl <| sq_callV mt_37 hcs dX4_addText_51 rfl w_329 w_330 w_331 w_56 w_332 hy_37 hm_37 <| sn_iinc dX4_addText_54 rfl (by decide) <| sn_goto (tg := 41) dX4_addText_57 rfl rfl
set_option maxRecDepth 100000 in
theorem sX4_addText_2 {G : ab_G} {xs : List Int32} {d : Nat} {cal : ab_F} (hcs : ab_CS G (ab_Z G xs) ab_Mf cal d) : ab_Sd G (ab_Z G xs) (d + 1) (ab_mY mX4_addText pX4_addText) 60 (bX4_addText_2 cal) :=
  sn_iload_n dX4_addText_60 rfl <| sn_ret dX4_addText_61 ab_ri_int
theorem sX4_addText {G : ab_G} {xs : List Int32} {d : Nat} {cal : ab_F} (hcs : ab_CS G (ab_Z G xs) ab_Mf cal d) : ab_BS G (ab_Z G xs) (d + 1) (ab_mY mX4_addText pX4_addText) pX4_addText (bX4_addText cal) := ⟨sX4_addText_0 hcs, sX4_addText_1 hcs, sX4_addText_2 hcs, trivial⟩
theorem dgX4_darken_0 : decode cX4_darken 0 = .ok (.aload_n 0, 1) ∧ decode cX4_darken 1 = .ok (.iconst 0, 1) ∧ decode cX4_darken 2 = .ok (.invokevirtual 97, 3) ∧ decode cX4_darken 5 = .ok (.astore_n 2, 1) ∧ decode cX4_darken 6 = .ok (.aload_n 0, 1) ∧ decode cX4_darken 7 = .ok (.iload_n 1, 1) ∧ decode cX4_darken 8 = .ok (.invokevirtual 100, 3) ∧ decode cX4_darken 11 = .ok (.istore_n 3, 1) ∧ decode cX4_darken 12 = .ok (.iconst 0, 1) ∧ decode cX4_darken 13 = .ok (.istore 4, 2) ∧ decode cX4_darken 15 = .ok (.iload 4, 2) ∧ decode cX4_darken 17 = .ok (.iconst 4, 1) ∧ decode cX4_darken 18 = .ok (.if_icmp .ge 71, 3) ∧ decode cX4_darken 21 = .ok (.aload_n 0, 1) ∧ decode cX4_darken 22 = .ok (.getfield 33, 3) ∧ decode cX4_darken 25 = .ok (.iload_n 1, 1) := by decide +kernel
theorem dX4_darken_0 : decode cX4_darken 0 = .ok (.aload_n 0, 1) := dgX4_darken_0.1
theorem dX4_darken_1 : decode cX4_darken 1 = .ok (.iconst 0, 1) := dgX4_darken_0.2.1
theorem dX4_darken_2 : decode cX4_darken 2 = .ok (.invokevirtual 97, 3) := dgX4_darken_0.2.2.1
theorem dX4_darken_5 : decode cX4_darken 5 = .ok (.astore_n 2, 1) := dgX4_darken_0.2.2.2.1
theorem dX4_darken_6 : decode cX4_darken 6 = .ok (.aload_n 0, 1) := dgX4_darken_0.2.2.2.2.1
theorem dX4_darken_7 : decode cX4_darken 7 = .ok (.iload_n 1, 1) := dgX4_darken_0.2.2.2.2.2.1
theorem dX4_darken_8 : decode cX4_darken 8 = .ok (.invokevirtual 100, 3) := dgX4_darken_0.2.2.2.2.2.2.1
theorem dX4_darken_11 : decode cX4_darken 11 = .ok (.istore_n 3, 1) := dgX4_darken_0.2.2.2.2.2.2.2.1
theorem dX4_darken_12 : decode cX4_darken 12 = .ok (.iconst 0, 1) := dgX4_darken_0.2.2.2.2.2.2.2.2.1
theorem dX4_darken_13 : decode cX4_darken 13 = .ok (.istore 4, 2) := dgX4_darken_0.2.2.2.2.2.2.2.2.2.1
theorem dX4_darken_15 : decode cX4_darken 15 = .ok (.iload 4, 2) := dgX4_darken_0.2.2.2.2.2.2.2.2.2.2.1
theorem dX4_darken_17 : decode cX4_darken 17 = .ok (.iconst 4, 1) := dgX4_darken_0.2.2.2.2.2.2.2.2.2.2.2.1
theorem dX4_darken_18 : decode cX4_darken 18 = .ok (.if_icmp .ge 71, 3) := dgX4_darken_0.2.2.2.2.2.2.2.2.2.2.2.2.1
theorem dX4_darken_21 : decode cX4_darken 21 = .ok (.aload_n 0, 1) := dgX4_darken_0.2.2.2.2.2.2.2.2.2.2.2.2.2.1
theorem dX4_darken_22 : decode cX4_darken 22 = .ok (.getfield 33, 3) := dgX4_darken_0.2.2.2.2.2.2.2.2.2.2.2.2.2.2.1
theorem dX4_darken_25 : decode cX4_darken 25 = .ok (.iload_n 1, 1) := dgX4_darken_0.2.2.2.2.2.2.2.2.2.2.2.2.2.2.2
theorem dgX4_darken_1 : decode cX4_darken 26 = .ok (.iload 4, 2) ∧ decode cX4_darken 28 = .ok (.iconst 0, 1) ∧ decode cX4_darken 29 = .ok (.invokestatic 104, 3) ∧ decode cX4_darken 32 = .ok (.aload_n 2, 1) ∧ decode cX4_darken 33 = .ok (.aload_n 0, 1) ∧ decode cX4_darken 34 = .ok (.getfield 9, 3) ∧ decode cX4_darken 37 = .ok (.iload_n 1, 1) ∧ decode cX4_darken 38 = .ok (.iaload, 1) ∧ decode cX4_darken 39 = .ok (.aload_n 0, 1) ∧ decode cX4_darken 40 = .ok (.getfield 15, 3) ∧ decode cX4_darken 43 = .ok (.iload_n 1, 1) ∧ decode cX4_darken 44 = .ok (.iaload, 1) ∧ decode cX4_darken 45 = .ok (.iload 4, 2) ∧ decode cX4_darken 47 = .ok (.iload_n 3, 1) ∧ decode cX4_darken 48 = .ok (.invokestatic 107, 3) ∧ decode cX4_darken 51 = .ok (.iastore, 1) := by decide +kernel
theorem dX4_darken_26 : decode cX4_darken 26 = .ok (.iload 4, 2) := dgX4_darken_1.1
theorem dX4_darken_28 : decode cX4_darken 28 = .ok (.iconst 0, 1) := dgX4_darken_1.2.1
theorem dX4_darken_29 : decode cX4_darken 29 = .ok (.invokestatic 104, 3) := dgX4_darken_1.2.2.1
theorem dX4_darken_32 : decode cX4_darken 32 = .ok (.aload_n 2, 1) := dgX4_darken_1.2.2.2.1
theorem dX4_darken_33 : decode cX4_darken 33 = .ok (.aload_n 0, 1) := dgX4_darken_1.2.2.2.2.1
theorem dX4_darken_34 : decode cX4_darken 34 = .ok (.getfield 9, 3) := dgX4_darken_1.2.2.2.2.2.1
theorem dX4_darken_37 : decode cX4_darken 37 = .ok (.iload_n 1, 1) := dgX4_darken_1.2.2.2.2.2.2.1
theorem dX4_darken_38 : decode cX4_darken 38 = .ok (.iaload, 1) := dgX4_darken_1.2.2.2.2.2.2.2.1
theorem dX4_darken_39 : decode cX4_darken 39 = .ok (.aload_n 0, 1) := dgX4_darken_1.2.2.2.2.2.2.2.2.1
theorem dX4_darken_40 : decode cX4_darken 40 = .ok (.getfield 15, 3) := dgX4_darken_1.2.2.2.2.2.2.2.2.2.1
theorem dX4_darken_43 : decode cX4_darken 43 = .ok (.iload_n 1, 1) := dgX4_darken_1.2.2.2.2.2.2.2.2.2.2.1
theorem dX4_darken_44 : decode cX4_darken 44 = .ok (.iaload, 1) := dgX4_darken_1.2.2.2.2.2.2.2.2.2.2.2.1
theorem dX4_darken_45 : decode cX4_darken 45 = .ok (.iload 4, 2) := dgX4_darken_1.2.2.2.2.2.2.2.2.2.2.2.2.1
theorem dX4_darken_47 : decode cX4_darken 47 = .ok (.iload_n 3, 1) := dgX4_darken_1.2.2.2.2.2.2.2.2.2.2.2.2.2.1
theorem dX4_darken_48 : decode cX4_darken 48 = .ok (.invokestatic 107, 3) := dgX4_darken_1.2.2.2.2.2.2.2.2.2.2.2.2.2.2.1
theorem dX4_darken_51 : decode cX4_darken 51 = .ok (.iastore, 1) := dgX4_darken_1.2.2.2.2.2.2.2.2.2.2.2.2.2.2.2
theorem dgX4_darken_2 : decode cX4_darken 52 = .ok (.aload_n 0, 1) ∧ decode cX4_darken 53 = .ok (.getfield 33, 3) ∧ decode cX4_darken 56 = .ok (.iload_n 1, 1) ∧ decode cX4_darken 57 = .ok (.iload 4, 2) ∧ decode cX4_darken 59 = .ok (.iconst 1, 1) ∧ decode cX4_darken 60 = .ok (.invokestatic 104, 3) ∧ decode cX4_darken 63 = .ok (.aload_n 2, 1) ∧ decode cX4_darken 64 = .ok (.aload_n 0, 1) ∧ decode cX4_darken 65 = .ok (.getfield 9, 3) ∧ decode cX4_darken 68 = .ok (.iload_n 1, 1) ∧ decode cX4_darken 69 = .ok (.iaload, 1) ∧ decode cX4_darken 70 = .ok (.aload_n 0, 1) ∧ decode cX4_darken 71 = .ok (.getfield 18, 3) ∧ decode cX4_darken 74 = .ok (.iload_n 1, 1) ∧ decode cX4_darken 75 = .ok (.iaload, 1) ∧ decode cX4_darken 76 = .ok (.iload 4, 2) := by decide +kernel
theorem dX4_darken_52 : decode cX4_darken 52 = .ok (.aload_n 0, 1) := dgX4_darken_2.1
theorem dX4_darken_53 : decode cX4_darken 53 = .ok (.getfield 33, 3) := dgX4_darken_2.2.1
theorem dX4_darken_56 : decode cX4_darken 56 = .ok (.iload_n 1, 1) := dgX4_darken_2.2.2.1
theorem dX4_darken_57 : decode cX4_darken 57 = .ok (.iload 4, 2) := dgX4_darken_2.2.2.2.1
theorem dX4_darken_59 : decode cX4_darken 59 = .ok (.iconst 1, 1) := dgX4_darken_2.2.2.2.2.1
theorem dX4_darken_60 : decode cX4_darken 60 = .ok (.invokestatic 104, 3) := dgX4_darken_2.2.2.2.2.2.1
theorem dX4_darken_63 : decode cX4_darken 63 = .ok (.aload_n 2, 1) := dgX4_darken_2.2.2.2.2.2.2.1
theorem dX4_darken_64 : decode cX4_darken 64 = .ok (.aload_n 0, 1) := dgX4_darken_2.2.2.2.2.2.2.2.1
theorem dX4_darken_65 : decode cX4_darken 65 = .ok (.getfield 9, 3) := dgX4_darken_2.2.2.2.2.2.2.2.2.1
theorem dX4_darken_68 : decode cX4_darken 68 = .ok (.iload_n 1, 1) := dgX4_darken_2.2.2.2.2.2.2.2.2.2.1
theorem dX4_darken_69 : decode cX4_darken 69 = .ok (.iaload, 1) := dgX4_darken_2.2.2.2.2.2.2.2.2.2.2.1
theorem dX4_darken_70 : decode cX4_darken 70 = .ok (.aload_n 0, 1) := dgX4_darken_2.2.2.2.2.2.2.2.2.2.2.2.1
theorem dX4_darken_71 : decode cX4_darken 71 = .ok (.getfield 18, 3) := dgX4_darken_2.2.2.2.2.2.2.2.2.2.2.2.2.1
theorem dX4_darken_74 : decode cX4_darken 74 = .ok (.iload_n 1, 1) := dgX4_darken_2.2.2.2.2.2.2.2.2.2.2.2.2.2.1
theorem dX4_darken_75 : decode cX4_darken 75 = .ok (.iaload, 1) := dgX4_darken_2.2.2.2.2.2.2.2.2.2.2.2.2.2.2.1
theorem dX4_darken_76 : decode cX4_darken 76 = .ok (.iload 4, 2) := dgX4_darken_2.2.2.2.2.2.2.2.2.2.2.2.2.2.2.2
theorem dgX4_darken_3 : decode cX4_darken 78 = .ok (.iload_n 3, 1) ∧ decode cX4_darken 79 = .ok (.invokestatic 107, 3) ∧ decode cX4_darken 82 = .ok (.iastore, 1) ∧ decode cX4_darken 83 = .ok (.iinc 4 1, 3) ∧ decode cX4_darken 86 = .ok (.goto (-71), 3) ∧ decode cX4_darken 89 = .ok (.return_, 1) := by decide +kernel
theorem dX4_darken_78 : decode cX4_darken 78 = .ok (.iload_n 3, 1) := dgX4_darken_3.1
theorem dX4_darken_79 : decode cX4_darken 79 = .ok (.invokestatic 107, 3) := dgX4_darken_3.2.1
theorem dX4_darken_82 : decode cX4_darken 82 = .ok (.iastore, 1) := dgX4_darken_3.2.2.1
theorem dX4_darken_83 : decode cX4_darken 83 = .ok (.iinc 4 1, 3) := dgX4_darken_3.2.2.2.1
theorem dX4_darken_86 : decode cX4_darken 86 = .ok (.goto (-71), 3) := dgX4_darken_3.2.2.2.2.1
theorem dX4_darken_89 : decode cX4_darken 89 = .ok (.return_, 1) := dgX4_darken_3.2.2.2.2.2
abbrev pX4_darken : List Nat := [0, 15, 89]
def bX4_darken_0 (cal : ab_F) : ab_K := o_aload 0 <| o_push (.int 0) <| o_callV cal 35 1 3 <| o_astore 2 <| o_aload 0 <| o_iload 1 <| o_callV cal 40 1 3 <| o_istore 3 <| o_push (.int 0) <| o_istore 4 <| o_goto 1
def bX4_darken_1 (cal : ab_F) : ab_K := o_iload 4 <| o_push (.int 4) <| o_cmp (fun x y => decide (y ≤ x)) 2 <| o_aload 0 <| o_getf 3 7 <| o_iload 1 <| o_iload 4 <| o_push (.int 0) <| o_callS cal 39 3 <| o_aload 2 <| o_aload 0 <| o_getf 3 0 <| o_iload 1 <| o_iald 0 <| o_aload 0 <| o_getf 3 1 <| o_iload 1 <| o_iald 0 <| o_iload 4 <| o_iload 3 <| o_callS cal 38 5 <| o_iast 0 (fun x => x) <| o_aload 0 <| o_getf 3 7 <| o_iload 1 <| o_iload 4 <| o_push (.int 1) <| o_callS cal 39 3 <| o_aload 2 <| o_aload 0 <| o_getf 3 0 <| o_iload 1 <| o_iald 0 <| o_aload 0 <| o_getf 3 2 <| o_iload 1 <| o_iald 0 <| o_iload 4 <| o_iload 3 <| o_callS cal 38 5 <| o_iast 0 (fun x => x) <| o_iinc 4 1 <| o_goto 1
def bX4_darken_2 (cal : ab_F) : ab_K := o_ret none
def bX4_darken (cal : ab_F) : List ab_K := [bX4_darken_0 cal, bX4_darken_1 cal, bX4_darken_2 cal]
set_option maxRecDepth 100000 in
theorem sX4_darken_0 {G : ab_G} {xs : List Int32} {d : Nat} {cal : ab_F} (hcs : ab_CS G (ab_Z G xs) ab_Mf cal d) : ab_Sd G (ab_Z G xs) (d + 1) (ab_mY mX4_darken pX4_darken) 0 (bX4_darken_0 cal) :=
  sn_aload_n dX4_darken_0 rfl <| sn_iconst dX4_darken_1 rfl <| sq_callV mt_35 hcs dX4_darken_2 rfl w_333 w_334 w_335 w_56 w_336 hy_35 hm_35 <| sn_astore_n dX4_darken_5 rfl (by decide) <| sn_aload_n dX4_darken_6 rfl <| sn_iload_n dX4_darken_7 rfl <| sq_callV mt_40 hcs dX4_darken_8 rfl w_342 w_343 w_344 w_56 w_345 hy_40 hm_40 <| sn_istore_n dX4_darken_11 rfl (by decide) <| sn_iconst dX4_darken_12 rfl <| sn_istore dX4_darken_13 (by decide) <| sn_next rfl
set_option maxRecDepth 100000 in
theorem sX4_darken_1 {G : ab_G} {xs : List Int32} {d : Nat} {cal : ab_F} (hcs : ab_CS G (ab_Z G xs) ab_Mf cal d) : ab_Sd G (ab_Z G xs) (d + 1) (ab_mY mX4_darken pX4_darken) 15 (bX4_darken_1 cal) :=
  sn_iload dX4_darken_15 <| sn_iconst dX4_darken_17 rfl <| sn_cmp_ge (tg := 89) dX4_darken_18 rfl rfl <| sn_aload_n dX4_darken_21 rfl <| sn_getf dX4_darken_22 rfl hinX4 (by decide) w_108 <| sn_iload_n dX4_darken_25 rfl <| sn_iload dX4_darken_26 <| sn_iconst dX4_darken_28 rfl <| sq_callS mt_39 hcs dX4_darken_29 w_349 w_350 w_56 w_351 hy_39 hm_39 <| sn_aload_n dX4_darken_32 rfl <| sn_aload_n dX4_darken_33 rfl <| sn_getf dX4_darken_34 rfl hinX4 (by decide) w_93 <| sn_iload_n dX4_darken_37 rfl <| sn_iald dX4_darken_38 rfl <| sn_aload_n dX4_darken_39 rfl <| sn_getf dX4_darken_40 rfl hinX4 (by decide) w_95 <| sn_iload_n dX4_darken_43 rfl <| sn_iald dX4_darken_44 rfl <| sn_iload dX4_darken_45 <| sn_iload_n dX4_darken_47 rfl <| sq_callS mt_38 hcs dX4_darken_48 w_352 w_353 w_56 w_354 hy_38 hm_38 <| sn_iast dX4_darken_51 rfl rfl <| sn_aload_n dX4_darken_52 rfl <| sn_getf dX4_darken_53 rfl hinX4 (by decide) w_108 <| sn_iload_n dX4_darken_56 rfl <| sn_iload dX4_darken_57 <| sn_iconst dX4_darken_59 rfl <| sq_callS mt_39 hcs dX4_darken_60 w_349 w_350 w_56 w_351 hy_39 hm_39 <| sn_aload_n dX4_darken_63 rfl <| sn_aload_n dX4_darken_64 rfl <| sn_getf dX4_darken_65 rfl hinX4 (by decide) w_93 <| sn_iload_n dX4_darken_68 rfl <| sn_iald dX4_darken_69 rfl <| sn_aload_n dX4_darken_70 rfl <| sn_getf dX4_darken_71 rfl hinX4 (by decide) w_97 <| sn_iload_n dX4_darken_74 rfl <| sn_iald dX4_darken_75 rfl <| sn_iload dX4_darken_76 <| sn_iload_n dX4_darken_78 rfl <| sq_callS mt_38 hcs dX4_darken_79 w_352 w_353 w_56 w_354 hy_38 hm_38 <| sn_iast dX4_darken_82 rfl rfl <| sn_iinc dX4_darken_83 rfl (by decide) <| sn_goto (tg := 15) dX4_darken_86 rfl rfl
set_option maxRecDepth 100000 in
theorem sX4_darken_2 {G : ab_G} {xs : List Int32} {d : Nat} {cal : ab_F} (hcs : ab_CS G (ab_Z G xs) ab_Mf cal d) : ab_Sd G (ab_Z G xs) (d + 1) (ab_mY mX4_darken pX4_darken) 89 (bX4_darken_2 cal) :=
  sn_ret dX4_darken_89 ab_ri_void
theorem sX4_darken {G : ab_G} {xs : List Int32} {d : Nat} {cal : ab_F} (hcs : ab_CS G (ab_Z G xs) ab_Mf cal d) : ab_BS G (ab_Z G xs) (d + 1) (ab_mY mX4_darken pX4_darken) pX4_darken (bX4_darken cal) := ⟨sX4_darken_0 hcs, sX4_darken_1 hcs, sX4_darken_2 hcs, trivial⟩
theorem dgX4_darkOf_0 : decode cX4_darkOf 0 = .ok (.aload_n 0, 1) ∧ decode cX4_darkOf 1 = .ok (.ifnonnull 10, 3) ∧ decode cX4_darkOf 4 = .ok (.bipush 15, 2) ∧ decode cX4_darkOf 6 = .ok (.iload_n 2, 1) ∧ decode cX4_darkOf 7 = .ok (.imul, 1) ∧ decode cX4_darkOf 8 = .ok (.goto 11, 3) ∧ decode cX4_darkOf 11 = .ok (.aload_n 0, 1) ∧ decode cX4_darkOf 12 = .ok (.iload_n 2, 1) ∧ decode cX4_darkOf 13 = .ok (.iload_n 3, 1) ∧ decode cX4_darkOf 14 = .ok (.iload 4, 2) ∧ decode cX4_darkOf 16 = .ok (.invokevirtual 111, 3) ∧ decode cX4_darkOf 19 = .ok (.istore 5, 2) ∧ decode cX4_darkOf 21 = .ok (.iload_n 1, 1) ∧ decode cX4_darkOf 22 = .ok (.iload 5, 2) ∧ decode cX4_darkOf 24 = .ok (.iconst 0, 1) ∧ decode cX4_darkOf 25 = .ok (.bipush 99, 2) := by decide +kernel
theorem dX4_darkOf_0 : decode cX4_darkOf 0 = .ok (.aload_n 0, 1) := dgX4_darkOf_0.1
theorem dX4_darkOf_1 : decode cX4_darkOf 1 = .ok (.ifnonnull 10, 3) := dgX4_darkOf_0.2.1
theorem dX4_darkOf_4 : decode cX4_darkOf 4 = .ok (.bipush 15, 2) := dgX4_darkOf_0.2.2.1
theorem dX4_darkOf_6 : decode cX4_darkOf 6 = .ok (.iload_n 2, 1) := dgX4_darkOf_0.2.2.2.1
theorem dX4_darkOf_7 : decode cX4_darkOf 7 = .ok (.imul, 1) := dgX4_darkOf_0.2.2.2.2.1
theorem dX4_darkOf_8 : decode cX4_darkOf 8 = .ok (.goto 11, 3) := dgX4_darkOf_0.2.2.2.2.2.1
theorem dX4_darkOf_11 : decode cX4_darkOf 11 = .ok (.aload_n 0, 1) := dgX4_darkOf_0.2.2.2.2.2.2.1
theorem dX4_darkOf_12 : decode cX4_darkOf 12 = .ok (.iload_n 2, 1) := dgX4_darkOf_0.2.2.2.2.2.2.2.1
theorem dX4_darkOf_13 : decode cX4_darkOf 13 = .ok (.iload_n 3, 1) := dgX4_darkOf_0.2.2.2.2.2.2.2.2.1
theorem dX4_darkOf_14 : decode cX4_darkOf 14 = .ok (.iload 4, 2) := dgX4_darkOf_0.2.2.2.2.2.2.2.2.2.1
theorem dX4_darkOf_16 : decode cX4_darkOf 16 = .ok (.invokevirtual 111, 3) := dgX4_darkOf_0.2.2.2.2.2.2.2.2.2.2.1
theorem dX4_darkOf_19 : decode cX4_darkOf 19 = .ok (.istore 5, 2) := dgX4_darkOf_0.2.2.2.2.2.2.2.2.2.2.2.1
theorem dX4_darkOf_21 : decode cX4_darkOf 21 = .ok (.iload_n 1, 1) := dgX4_darkOf_0.2.2.2.2.2.2.2.2.2.2.2.2.1
theorem dX4_darkOf_22 : decode cX4_darkOf 22 = .ok (.iload 5, 2) := dgX4_darkOf_0.2.2.2.2.2.2.2.2.2.2.2.2.2.1
theorem dX4_darkOf_24 : decode cX4_darkOf 24 = .ok (.iconst 0, 1) := dgX4_darkOf_0.2.2.2.2.2.2.2.2.2.2.2.2.2.2.1
theorem dX4_darkOf_25 : decode cX4_darkOf 25 = .ok (.bipush 99, 2) := dgX4_darkOf_0.2.2.2.2.2.2.2.2.2.2.2.2.2.2.2
theorem dgX4_darkOf_1 : decode cX4_darkOf 27 = .ok (.invokestatic 114, 3) ∧ decode cX4_darkOf 30 = .ok (.invokestatic 117, 3) ∧ decode cX4_darkOf 33 = .ok (.ireturn, 1) := by decide +kernel
theorem dX4_darkOf_27 : decode cX4_darkOf 27 = .ok (.invokestatic 114, 3) := dgX4_darkOf_1.1
theorem dX4_darkOf_30 : decode cX4_darkOf 30 = .ok (.invokestatic 117, 3) := dgX4_darkOf_1.2.1
theorem dX4_darkOf_33 : decode cX4_darkOf 33 = .ok (.ireturn, 1) := dgX4_darkOf_1.2.2
abbrev pX4_darkOf : List Nat := [0, 11, 19]
def bX4_darkOf_0 (cal : ab_F) : ab_K := o_aload 0 <| o_ifnonnull 1 <| o_push (.int 15) <| o_iload 2 <| o_bin (fun x y => x * y) <| o_goto 2
def bX4_darkOf_1 (cal : ab_F) : ab_K := o_aload 0 <| o_iload 2 <| o_iload 3 <| o_iload 4 <| o_callV cal 63 3 5 <| o_goto 2
def bX4_darkOf_2 (cal : ab_F) : ab_K := o_istore 5 <| o_iload 1 <| o_iload 5 <| o_push (.int 0) <| o_push (.int 99) <| o_callS cal 124 3 <| o_callS cal 1 2 <| o_ret (some .int)
def bX4_darkOf (cal : ab_F) : List ab_K := [bX4_darkOf_0 cal, bX4_darkOf_1 cal, bX4_darkOf_2 cal]
set_option maxRecDepth 100000 in
theorem sX4_darkOf_0 {G : ab_G} {xs : List Int32} {d : Nat} {cal : ab_F} (hcs : ab_CS G (ab_Z G xs) ab_Mf cal d) : ab_Sd G (ab_Z G xs) (d + 1) (ab_mY mX4_darkOf pX4_darkOf) 0 (bX4_darkOf_0 cal) :=
  sn_aload_n dX4_darkOf_0 rfl <| sn_ifnonnull (tg := 11) dX4_darkOf_1 rfl rfl <| sn_bipush dX4_darkOf_4 rfl <| sn_iload_n dX4_darkOf_6 rfl <| sn_imul dX4_darkOf_7 <| sn_goto (tg := 19) dX4_darkOf_8 rfl rfl
set_option maxRecDepth 100000 in
theorem sX4_darkOf_1 {G : ab_G} {xs : List Int32} {d : Nat} {cal : ab_F} (hcs : ab_CS G (ab_Z G xs) ab_Mf cal d) : ab_Sd G (ab_Z G xs) (d + 1) (ab_mY mX4_darkOf pX4_darkOf) 11 (bX4_darkOf_1 cal) :=
  sn_aload_n dX4_darkOf_11 rfl <| sn_iload_n dX4_darkOf_12 rfl <| sn_iload_n dX4_darkOf_13 rfl <| sn_iload dX4_darkOf_14 <| sq_callV mt_63 hcs dX4_darkOf_16 rfl w_355 w_356 w_357 w_65 w_358 hy_63 hm_63 <| sn_next rfl
set_option maxRecDepth 100000 in
theorem sX4_darkOf_2 {G : ab_G} {xs : List Int32} {d : Nat} {cal : ab_F} (hcs : ab_CS G (ab_Z G xs) ab_Mf cal d) : ab_Sd G (ab_Z G xs) (d + 1) (ab_mY mX4_darkOf pX4_darkOf) 19 (bX4_darkOf_2 cal) :=
  sn_istore dX4_darkOf_19 (by decide) <| sn_iload_n dX4_darkOf_21 rfl <| sn_iload dX4_darkOf_22 <| sn_iconst dX4_darkOf_24 rfl <| sn_bipush dX4_darkOf_25 rfl <| sq_callSN mt_124 hcs dX4_darkOf_27 zn_6 w_369 w_55 w_370 hy_124 hm_124 <| sq_callS mt_1 hcs dX4_darkOf_30 w_377 w_378 w_64 w_379 hy_1 hm_1 <| sn_ret dX4_darkOf_33 ab_ri_int
theorem sX4_darkOf {G : ab_G} {xs : List Int32} {d : Nat} {cal : ab_F} (hcs : ab_CS G (ab_Z G xs) ab_Mf cal d) : ab_BS G (ab_Z G xs) (d + 1) (ab_mY mX4_darkOf pX4_darkOf) pX4_darkOf (bX4_darkOf cal) := ⟨sX4_darkOf_0 hcs, sX4_darkOf_1 hcs, sX4_darkOf_2 hcs, trivial⟩
theorem dgX4_darkAt_0 : decode cX4_darkAt 0 = .ok (.iload_n 0, 1) ∧ decode cX4_darkAt 1 = .ok (.iconst 4, 1) ∧ decode cX4_darkAt 2 = .ok (.imul, 1) ∧ decode cX4_darkAt 3 = .ok (.iload_n 1, 1) ∧ decode cX4_darkAt 4 = .ok (.iadd, 1) ∧ decode cX4_darkAt 5 = .ok (.iconst 2, 1) ∧ decode cX4_darkAt 6 = .ok (.imul, 1) ∧ decode cX4_darkAt 7 = .ok (.iload_n 2, 1) ∧ decode cX4_darkAt 8 = .ok (.iadd, 1) ∧ decode cX4_darkAt 9 = .ok (.ireturn, 1) := by decide +kernel
theorem dX4_darkAt_0 : decode cX4_darkAt 0 = .ok (.iload_n 0, 1) := dgX4_darkAt_0.1
theorem dX4_darkAt_1 : decode cX4_darkAt 1 = .ok (.iconst 4, 1) := dgX4_darkAt_0.2.1
theorem dX4_darkAt_2 : decode cX4_darkAt 2 = .ok (.imul, 1) := dgX4_darkAt_0.2.2.1
theorem dX4_darkAt_3 : decode cX4_darkAt 3 = .ok (.iload_n 1, 1) := dgX4_darkAt_0.2.2.2.1
theorem dX4_darkAt_4 : decode cX4_darkAt 4 = .ok (.iadd, 1) := dgX4_darkAt_0.2.2.2.2.1
theorem dX4_darkAt_5 : decode cX4_darkAt 5 = .ok (.iconst 2, 1) := dgX4_darkAt_0.2.2.2.2.2.1
theorem dX4_darkAt_6 : decode cX4_darkAt 6 = .ok (.imul, 1) := dgX4_darkAt_0.2.2.2.2.2.2.1
theorem dX4_darkAt_7 : decode cX4_darkAt 7 = .ok (.iload_n 2, 1) := dgX4_darkAt_0.2.2.2.2.2.2.2.1
theorem dX4_darkAt_8 : decode cX4_darkAt 8 = .ok (.iadd, 1) := dgX4_darkAt_0.2.2.2.2.2.2.2.2.1
theorem dX4_darkAt_9 : decode cX4_darkAt 9 = .ok (.ireturn, 1) := dgX4_darkAt_0.2.2.2.2.2.2.2.2.2
abbrev pX4_darkAt : List Nat := [0]
def bX4_darkAt_0 (cal : ab_F) : ab_K := o_iload 0 <| o_push (.int 4) <| o_bin (fun x y => x * y) <| o_iload 1 <| o_bin (fun x y => x + y) <| o_push (.int 2) <| o_bin (fun x y => x * y) <| o_iload 2 <| o_bin (fun x y => x + y) <| o_ret (some .int)
def bX4_darkAt (cal : ab_F) : List ab_K := [bX4_darkAt_0 cal]
set_option maxRecDepth 100000 in
theorem sX4_darkAt_0 {G : ab_G} {xs : List Int32} {d : Nat} {cal : ab_F} (hcs : ab_CS G (ab_Z G xs) ab_Mf cal d) : ab_Sd G (ab_Z G xs) (d + 1) (ab_mY mX4_darkAt pX4_darkAt) 0 (bX4_darkAt_0 cal) :=
  sn_iload_n dX4_darkAt_0 rfl <| sn_iconst dX4_darkAt_1 rfl <| sn_imul dX4_darkAt_2 <| sn_iload_n dX4_darkAt_3 rfl <| sn_iadd dX4_darkAt_4 <| sn_iconst dX4_darkAt_5 rfl <| sn_imul dX4_darkAt_6 <| sn_iload_n dX4_darkAt_7 rfl <| sn_iadd dX4_darkAt_8 <| sn_ret dX4_darkAt_9 ab_ri_int
theorem sX4_darkAt {G : ab_G} {xs : List Int32} {d : Nat} {cal : ab_F} (hcs : ab_CS G (ab_Z G xs) ab_Mf cal d) : ab_BS G (ab_Z G xs) (d + 1) (ab_mY mX4_darkAt pX4_darkAt) pX4_darkAt (bX4_darkAt cal) := ⟨sX4_darkAt_0 hcs, trivial⟩
theorem dgX4_heavy_0 : decode cX4_heavy 0 = .ok (.aload_n 0, 1) ∧ decode cX4_heavy 1 = .ok (.getfield 9, 3) ∧ decode cX4_heavy 4 = .ok (.iload_n 1, 1) ∧ decode cX4_heavy 5 = .ok (.iaload, 1) ∧ decode cX4_heavy 6 = .ok (.aload_n 0, 1) ∧ decode cX4_heavy 7 = .ok (.getfield 15, 3) ∧ decode cX4_heavy 10 = .ok (.iload_n 1, 1) ∧ decode cX4_heavy 11 = .ok (.iaload, 1) ∧ decode cX4_heavy 12 = .ok (.aload_n 0, 1) ∧ decode cX4_heavy 13 = .ok (.getfield 18, 3) ∧ decode cX4_heavy 16 = .ok (.iload_n 1, 1) ∧ decode cX4_heavy 17 = .ok (.iaload, 1) ∧ decode cX4_heavy 18 = .ok (.invokestatic 123, 3) ∧ decode cX4_heavy 21 = .ok (.ireturn, 1) := by decide +kernel
theorem dX4_heavy_0 : decode cX4_heavy 0 = .ok (.aload_n 0, 1) := dgX4_heavy_0.1
theorem dX4_heavy_1 : decode cX4_heavy 1 = .ok (.getfield 9, 3) := dgX4_heavy_0.2.1
theorem dX4_heavy_4 : decode cX4_heavy 4 = .ok (.iload_n 1, 1) := dgX4_heavy_0.2.2.1
theorem dX4_heavy_5 : decode cX4_heavy 5 = .ok (.iaload, 1) := dgX4_heavy_0.2.2.2.1
theorem dX4_heavy_6 : decode cX4_heavy 6 = .ok (.aload_n 0, 1) := dgX4_heavy_0.2.2.2.2.1
theorem dX4_heavy_7 : decode cX4_heavy 7 = .ok (.getfield 15, 3) := dgX4_heavy_0.2.2.2.2.2.1
theorem dX4_heavy_10 : decode cX4_heavy 10 = .ok (.iload_n 1, 1) := dgX4_heavy_0.2.2.2.2.2.2.1
theorem dX4_heavy_11 : decode cX4_heavy 11 = .ok (.iaload, 1) := dgX4_heavy_0.2.2.2.2.2.2.2.1
theorem dX4_heavy_12 : decode cX4_heavy 12 = .ok (.aload_n 0, 1) := dgX4_heavy_0.2.2.2.2.2.2.2.2.1
theorem dX4_heavy_13 : decode cX4_heavy 13 = .ok (.getfield 18, 3) := dgX4_heavy_0.2.2.2.2.2.2.2.2.2.1
theorem dX4_heavy_16 : decode cX4_heavy 16 = .ok (.iload_n 1, 1) := dgX4_heavy_0.2.2.2.2.2.2.2.2.2.2.1
theorem dX4_heavy_17 : decode cX4_heavy 17 = .ok (.iaload, 1) := dgX4_heavy_0.2.2.2.2.2.2.2.2.2.2.2.1
theorem dX4_heavy_18 : decode cX4_heavy 18 = .ok (.invokestatic 123, 3) := dgX4_heavy_0.2.2.2.2.2.2.2.2.2.2.2.2.1
theorem dX4_heavy_21 : decode cX4_heavy 21 = .ok (.ireturn, 1) := dgX4_heavy_0.2.2.2.2.2.2.2.2.2.2.2.2.2
abbrev pX4_heavy : List Nat := [0]
def bX4_heavy_0 (cal : ab_F) : ab_K := o_aload 0 <| o_getf 3 0 <| o_iload 1 <| o_iald 0 <| o_aload 0 <| o_getf 3 1 <| o_iload 1 <| o_iald 0 <| o_aload 0 <| o_getf 3 2 <| o_iload 1 <| o_iald 0 <| o_callS cal 2 3 <| o_ret (some .int)
def bX4_heavy (cal : ab_F) : List ab_K := [bX4_heavy_0 cal]
set_option maxRecDepth 100000 in
theorem sX4_heavy_0 {G : ab_G} {xs : List Int32} {d : Nat} {cal : ab_F} (hcs : ab_CS G (ab_Z G xs) ab_Mf cal d) : ab_Sd G (ab_Z G xs) (d + 1) (ab_mY mX4_heavy pX4_heavy) 0 (bX4_heavy_0 cal) :=
  sn_aload_n dX4_heavy_0 rfl <| sn_getf dX4_heavy_1 rfl hinX4 (by decide) w_93 <| sn_iload_n dX4_heavy_4 rfl <| sn_iald dX4_heavy_5 rfl <| sn_aload_n dX4_heavy_6 rfl <| sn_getf dX4_heavy_7 rfl hinX4 (by decide) w_95 <| sn_iload_n dX4_heavy_10 rfl <| sn_iald dX4_heavy_11 rfl <| sn_aload_n dX4_heavy_12 rfl <| sn_getf dX4_heavy_13 rfl hinX4 (by decide) w_97 <| sn_iload_n dX4_heavy_16 rfl <| sn_iald dX4_heavy_17 rfl <| sq_callS mt_2 hcs dX4_heavy_18 w_346 w_347 w_64 w_348 hy_2 hm_2 <| sn_ret dX4_heavy_21 ab_ri_int
theorem sX4_heavy {G : ab_G} {xs : List Int32} {d : Nat} {cal : ab_F} (hcs : ab_CS G (ab_Z G xs) ab_Mf cal d) : ab_BS G (ab_Z G xs) (d + 1) (ab_mY mX4_heavy pX4_heavy) pX4_heavy (bX4_heavy cal) := ⟨sX4_heavy_0 hcs, trivial⟩
theorem dgX4_spots_0 : decode cX4_spots 0 = .ok (.iload_n 2, 1) ∧ decode cX4_spots 1 = .ok (.aload_n 0, 1) ∧ decode cX4_spots 2 = .ok (.getfield 24, 3) ∧ decode cX4_spots 5 = .ok (.iload_n 1, 1) ∧ decode cX4_spots 6 = .ok (.iaload, 1) ∧ decode cX4_spots 7 = .ok (.if_icmp .ne 12, 3) ∧ decode cX4_spots 10 = .ok (.aload_n 0, 1) ∧ decode cX4_spots 11 = .ok (.getfield 15, 3) ∧ decode cX4_spots 14 = .ok (.iload_n 1, 1) ∧ decode cX4_spots 15 = .ok (.iaload, 1) ∧ decode cX4_spots 16 = .ok (.goto 9, 3) ∧ decode cX4_spots 19 = .ok (.aload_n 0, 1) ∧ decode cX4_spots 20 = .ok (.getfield 18, 3) ∧ decode cX4_spots 23 = .ok (.iload_n 1, 1) ∧ decode cX4_spots 24 = .ok (.iaload, 1) ∧ decode cX4_spots 25 = .ok (.ireturn, 1) := by decide +kernel
theorem dX4_spots_0 : decode cX4_spots 0 = .ok (.iload_n 2, 1) := dgX4_spots_0.1
theorem dX4_spots_1 : decode cX4_spots 1 = .ok (.aload_n 0, 1) := dgX4_spots_0.2.1
theorem dX4_spots_2 : decode cX4_spots 2 = .ok (.getfield 24, 3) := dgX4_spots_0.2.2.1
theorem dX4_spots_5 : decode cX4_spots 5 = .ok (.iload_n 1, 1) := dgX4_spots_0.2.2.2.1
theorem dX4_spots_6 : decode cX4_spots 6 = .ok (.iaload, 1) := dgX4_spots_0.2.2.2.2.1
theorem dX4_spots_7 : decode cX4_spots 7 = .ok (.if_icmp .ne 12, 3) := dgX4_spots_0.2.2.2.2.2.1
theorem dX4_spots_10 : decode cX4_spots 10 = .ok (.aload_n 0, 1) := dgX4_spots_0.2.2.2.2.2.2.1
theorem dX4_spots_11 : decode cX4_spots 11 = .ok (.getfield 15, 3) := dgX4_spots_0.2.2.2.2.2.2.2.1
theorem dX4_spots_14 : decode cX4_spots 14 = .ok (.iload_n 1, 1) := dgX4_spots_0.2.2.2.2.2.2.2.2.1
theorem dX4_spots_15 : decode cX4_spots 15 = .ok (.iaload, 1) := dgX4_spots_0.2.2.2.2.2.2.2.2.2.1
theorem dX4_spots_16 : decode cX4_spots 16 = .ok (.goto 9, 3) := dgX4_spots_0.2.2.2.2.2.2.2.2.2.2.1
theorem dX4_spots_19 : decode cX4_spots 19 = .ok (.aload_n 0, 1) := dgX4_spots_0.2.2.2.2.2.2.2.2.2.2.2.1
theorem dX4_spots_20 : decode cX4_spots 20 = .ok (.getfield 18, 3) := dgX4_spots_0.2.2.2.2.2.2.2.2.2.2.2.2.1
theorem dX4_spots_23 : decode cX4_spots 23 = .ok (.iload_n 1, 1) := dgX4_spots_0.2.2.2.2.2.2.2.2.2.2.2.2.2.1
theorem dX4_spots_24 : decode cX4_spots 24 = .ok (.iaload, 1) := dgX4_spots_0.2.2.2.2.2.2.2.2.2.2.2.2.2.2.1
theorem dX4_spots_25 : decode cX4_spots 25 = .ok (.ireturn, 1) := dgX4_spots_0.2.2.2.2.2.2.2.2.2.2.2.2.2.2.2
abbrev pX4_spots : List Nat := [0, 19, 25]
def bX4_spots_0 (cal : ab_F) : ab_K := o_iload 2 <| o_aload 0 <| o_getf 3 4 <| o_iload 1 <| o_iald 0 <| o_cmp (fun x y => decide (¬ x = y)) 1 <| o_aload 0 <| o_getf 3 1 <| o_iload 1 <| o_iald 0 <| o_goto 2
def bX4_spots_1 (cal : ab_F) : ab_K := o_aload 0 <| o_getf 3 2 <| o_iload 1 <| o_iald 0 <| o_goto 2
def bX4_spots_2 (cal : ab_F) : ab_K := o_ret (some .int)
def bX4_spots (cal : ab_F) : List ab_K := [bX4_spots_0 cal, bX4_spots_1 cal, bX4_spots_2 cal]
set_option maxRecDepth 100000 in
theorem sX4_spots_0 {G : ab_G} {xs : List Int32} {d : Nat} {cal : ab_F} (hcs : ab_CS G (ab_Z G xs) ab_Mf cal d) : ab_Sd G (ab_Z G xs) (d + 1) (ab_mY mX4_spots pX4_spots) 0 (bX4_spots_0 cal) :=
  sn_iload_n dX4_spots_0 rfl <| sn_aload_n dX4_spots_1 rfl <| sn_getf dX4_spots_2 rfl hinX4 (by decide) w_102 <| sn_iload_n dX4_spots_5 rfl <| sn_iald dX4_spots_6 rfl <| sn_cmp_ne (tg := 19) dX4_spots_7 rfl rfl <| sn_aload_n dX4_spots_10 rfl <| sn_getf dX4_spots_11 rfl hinX4 (by decide) w_95 <| sn_iload_n dX4_spots_14 rfl <| sn_iald dX4_spots_15 rfl <| sn_goto (tg := 25) dX4_spots_16 rfl rfl
set_option maxRecDepth 100000 in
theorem sX4_spots_1 {G : ab_G} {xs : List Int32} {d : Nat} {cal : ab_F} (hcs : ab_CS G (ab_Z G xs) ab_Mf cal d) : ab_Sd G (ab_Z G xs) (d + 1) (ab_mY mX4_spots pX4_spots) 19 (bX4_spots_1 cal) :=
  sn_aload_n dX4_spots_19 rfl <| sn_getf dX4_spots_20 rfl hinX4 (by decide) w_97 <| sn_iload_n dX4_spots_23 rfl <| sn_iald dX4_spots_24 rfl <| sn_next rfl
set_option maxRecDepth 100000 in
theorem sX4_spots_2 {G : ab_G} {xs : List Int32} {d : Nat} {cal : ab_F} (hcs : ab_CS G (ab_Z G xs) ab_Mf cal d) : ab_Sd G (ab_Z G xs) (d + 1) (ab_mY mX4_spots pX4_spots) 25 (bX4_spots_2 cal) :=
  sn_ret dX4_spots_25 ab_ri_int
theorem sX4_spots {G : ab_G} {xs : List Int32} {d : Nat} {cal : ab_F} (hcs : ab_CS G (ab_Z G xs) ab_Mf cal d) : ab_BS G (ab_Z G xs) (d + 1) (ab_mY mX4_spots pX4_spots) pX4_spots (bX4_spots cal) := ⟨sX4_spots_0 hcs, sX4_spots_1 hcs, sX4_spots_2 hcs, trivial⟩
theorem dgX4_offAt_0 : decode cX4_offAt 0 = .ok (.iload_n 2, 1) ∧ decode cX4_offAt 1 = .ok (.iconst 3, 1) ∧ decode cX4_offAt 2 = .ok (.idiv, 1) ∧ decode cX4_offAt 3 = .ok (.istore 4, 2) ∧ decode cX4_offAt 5 = .ok (.aload_n 0, 1) ∧ decode cX4_offAt 6 = .ok (.getfield 33, 3) ∧ decode cX4_offAt 9 = .ok (.iload_n 1, 1) ∧ decode cX4_offAt 10 = .ok (.iload 4, 2) ∧ decode cX4_offAt 12 = .ok (.iload_n 3, 1) ∧ decode cX4_offAt 13 = .ok (.invokestatic 104, 3) ∧ decode cX4_offAt 16 = .ok (.iaload, 1) ∧ decode cX4_offAt 17 = .ok (.aload_n 0, 1) ∧ decode cX4_offAt 18 = .ok (.getfield 30, 3) ∧ decode cX4_offAt 21 = .ok (.iconst 2, 1) ∧ decode cX4_offAt 22 = .ok (.iload_n 2, 1) ∧ decode cX4_offAt 23 = .ok (.imul, 1) := by decide +kernel
theorem dX4_offAt_0 : decode cX4_offAt 0 = .ok (.iload_n 2, 1) := dgX4_offAt_0.1
theorem dX4_offAt_1 : decode cX4_offAt 1 = .ok (.iconst 3, 1) := dgX4_offAt_0.2.1
theorem dX4_offAt_2 : decode cX4_offAt 2 = .ok (.idiv, 1) := dgX4_offAt_0.2.2.1
theorem dX4_offAt_3 : decode cX4_offAt 3 = .ok (.istore 4, 2) := dgX4_offAt_0.2.2.2.1
theorem dX4_offAt_5 : decode cX4_offAt 5 = .ok (.aload_n 0, 1) := dgX4_offAt_0.2.2.2.2.1
theorem dX4_offAt_6 : decode cX4_offAt 6 = .ok (.getfield 33, 3) := dgX4_offAt_0.2.2.2.2.2.1
theorem dX4_offAt_9 : decode cX4_offAt 9 = .ok (.iload_n 1, 1) := dgX4_offAt_0.2.2.2.2.2.2.1
theorem dX4_offAt_10 : decode cX4_offAt 10 = .ok (.iload 4, 2) := dgX4_offAt_0.2.2.2.2.2.2.2.1
theorem dX4_offAt_12 : decode cX4_offAt 12 = .ok (.iload_n 3, 1) := dgX4_offAt_0.2.2.2.2.2.2.2.2.1
theorem dX4_offAt_13 : decode cX4_offAt 13 = .ok (.invokestatic 104, 3) := dgX4_offAt_0.2.2.2.2.2.2.2.2.2.1
theorem dX4_offAt_16 : decode cX4_offAt 16 = .ok (.iaload, 1) := dgX4_offAt_0.2.2.2.2.2.2.2.2.2.2.1
theorem dX4_offAt_17 : decode cX4_offAt 17 = .ok (.aload_n 0, 1) := dgX4_offAt_0.2.2.2.2.2.2.2.2.2.2.2.1
theorem dX4_offAt_18 : decode cX4_offAt 18 = .ok (.getfield 30, 3) := dgX4_offAt_0.2.2.2.2.2.2.2.2.2.2.2.2.1
theorem dX4_offAt_21 : decode cX4_offAt 21 = .ok (.iconst 2, 1) := dgX4_offAt_0.2.2.2.2.2.2.2.2.2.2.2.2.2.1
theorem dX4_offAt_22 : decode cX4_offAt 22 = .ok (.iload_n 2, 1) := dgX4_offAt_0.2.2.2.2.2.2.2.2.2.2.2.2.2.2.1
theorem dX4_offAt_23 : decode cX4_offAt 23 = .ok (.imul, 1) := dgX4_offAt_0.2.2.2.2.2.2.2.2.2.2.2.2.2.2.2
theorem dgX4_offAt_1 : decode cX4_offAt 24 = .ok (.iaload, 1) ∧ decode cX4_offAt 25 = .ok (.isub, 1) ∧ decode cX4_offAt 26 = .ok (.istore 5, 2) ∧ decode cX4_offAt 28 = .ok (.aload_n 0, 1) ∧ decode cX4_offAt 29 = .ok (.getfield 33, 3) ∧ decode cX4_offAt 32 = .ok (.iload_n 1, 1) ∧ decode cX4_offAt 33 = .ok (.iload 4, 2) ∧ decode cX4_offAt 35 = .ok (.iconst 1, 1) ∧ decode cX4_offAt 36 = .ok (.iload_n 3, 1) ∧ decode cX4_offAt 37 = .ok (.isub, 1) ∧ decode cX4_offAt 38 = .ok (.invokestatic 104, 3) ∧ decode cX4_offAt 41 = .ok (.iaload, 1) ∧ decode cX4_offAt 42 = .ok (.aload_n 0, 1) ∧ decode cX4_offAt 43 = .ok (.getfield 30, 3) ∧ decode cX4_offAt 46 = .ok (.iconst 2, 1) ∧ decode cX4_offAt 47 = .ok (.iload_n 2, 1) := by decide +kernel
theorem dX4_offAt_24 : decode cX4_offAt 24 = .ok (.iaload, 1) := dgX4_offAt_1.1
theorem dX4_offAt_25 : decode cX4_offAt 25 = .ok (.isub, 1) := dgX4_offAt_1.2.1
theorem dX4_offAt_26 : decode cX4_offAt 26 = .ok (.istore 5, 2) := dgX4_offAt_1.2.2.1
theorem dX4_offAt_28 : decode cX4_offAt 28 = .ok (.aload_n 0, 1) := dgX4_offAt_1.2.2.2.1
theorem dX4_offAt_29 : decode cX4_offAt 29 = .ok (.getfield 33, 3) := dgX4_offAt_1.2.2.2.2.1
theorem dX4_offAt_32 : decode cX4_offAt 32 = .ok (.iload_n 1, 1) := dgX4_offAt_1.2.2.2.2.2.1
theorem dX4_offAt_33 : decode cX4_offAt 33 = .ok (.iload 4, 2) := dgX4_offAt_1.2.2.2.2.2.2.1
theorem dX4_offAt_35 : decode cX4_offAt 35 = .ok (.iconst 1, 1) := dgX4_offAt_1.2.2.2.2.2.2.2.1
theorem dX4_offAt_36 : decode cX4_offAt 36 = .ok (.iload_n 3, 1) := dgX4_offAt_1.2.2.2.2.2.2.2.2.1
theorem dX4_offAt_37 : decode cX4_offAt 37 = .ok (.isub, 1) := dgX4_offAt_1.2.2.2.2.2.2.2.2.2.1
theorem dX4_offAt_38 : decode cX4_offAt 38 = .ok (.invokestatic 104, 3) := dgX4_offAt_1.2.2.2.2.2.2.2.2.2.2.1
theorem dX4_offAt_41 : decode cX4_offAt 41 = .ok (.iaload, 1) := dgX4_offAt_1.2.2.2.2.2.2.2.2.2.2.2.1
theorem dX4_offAt_42 : decode cX4_offAt 42 = .ok (.aload_n 0, 1) := dgX4_offAt_1.2.2.2.2.2.2.2.2.2.2.2.2.1
theorem dX4_offAt_43 : decode cX4_offAt 43 = .ok (.getfield 30, 3) := dgX4_offAt_1.2.2.2.2.2.2.2.2.2.2.2.2.2.1
theorem dX4_offAt_46 : decode cX4_offAt 46 = .ok (.iconst 2, 1) := dgX4_offAt_1.2.2.2.2.2.2.2.2.2.2.2.2.2.2.1
theorem dX4_offAt_47 : decode cX4_offAt 47 = .ok (.iload_n 2, 1) := dgX4_offAt_1.2.2.2.2.2.2.2.2.2.2.2.2.2.2.2
theorem dgX4_offAt_2 : decode cX4_offAt 48 = .ok (.imul, 1) ∧ decode cX4_offAt 49 = .ok (.iconst 1, 1) ∧ decode cX4_offAt 50 = .ok (.iadd, 1) ∧ decode cX4_offAt 51 = .ok (.iaload, 1) ∧ decode cX4_offAt 52 = .ok (.isub, 1) ∧ decode cX4_offAt 53 = .ok (.istore 6, 2) ∧ decode cX4_offAt 55 = .ok (.iload 5, 2) ∧ decode cX4_offAt 57 = .ok (.invokestatic 125, 3) ∧ decode cX4_offAt 60 = .ok (.iload 6, 2) ∧ decode cX4_offAt 62 = .ok (.invokestatic 125, 3) ∧ decode cX4_offAt 65 = .ok (.iadd, 1) ∧ decode cX4_offAt 66 = .ok (.ireturn, 1) := by decide +kernel
theorem dX4_offAt_48 : decode cX4_offAt 48 = .ok (.imul, 1) := dgX4_offAt_2.1
theorem dX4_offAt_49 : decode cX4_offAt 49 = .ok (.iconst 1, 1) := dgX4_offAt_2.2.1
theorem dX4_offAt_50 : decode cX4_offAt 50 = .ok (.iadd, 1) := dgX4_offAt_2.2.2.1
theorem dX4_offAt_51 : decode cX4_offAt 51 = .ok (.iaload, 1) := dgX4_offAt_2.2.2.2.1
theorem dX4_offAt_52 : decode cX4_offAt 52 = .ok (.isub, 1) := dgX4_offAt_2.2.2.2.2.1
theorem dX4_offAt_53 : decode cX4_offAt 53 = .ok (.istore 6, 2) := dgX4_offAt_2.2.2.2.2.2.1
theorem dX4_offAt_55 : decode cX4_offAt 55 = .ok (.iload 5, 2) := dgX4_offAt_2.2.2.2.2.2.2.1
theorem dX4_offAt_57 : decode cX4_offAt 57 = .ok (.invokestatic 125, 3) := dgX4_offAt_2.2.2.2.2.2.2.2.1
theorem dX4_offAt_60 : decode cX4_offAt 60 = .ok (.iload 6, 2) := dgX4_offAt_2.2.2.2.2.2.2.2.2.1
theorem dX4_offAt_62 : decode cX4_offAt 62 = .ok (.invokestatic 125, 3) := dgX4_offAt_2.2.2.2.2.2.2.2.2.2.1
theorem dX4_offAt_65 : decode cX4_offAt 65 = .ok (.iadd, 1) := dgX4_offAt_2.2.2.2.2.2.2.2.2.2.2.1
theorem dX4_offAt_66 : decode cX4_offAt 66 = .ok (.ireturn, 1) := dgX4_offAt_2.2.2.2.2.2.2.2.2.2.2.2
abbrev pX4_offAt : List Nat := [0]
def bX4_offAt_0 (cal : ab_F) : ab_K := o_iload 2 <| o_push (.int 3) <| o_div (fun x y => x / y) <| o_istore 4 <| o_aload 0 <| o_getf 3 7 <| o_iload 1 <| o_iload 4 <| o_iload 3 <| o_callS cal 39 3 <| o_iald 0 <| o_aload 0 <| o_getf 3 6 <| o_push (.int 2) <| o_iload 2 <| o_bin (fun x y => x * y) <| o_iald 0 <| o_bin (fun x y => x - y) <| o_istore 5 <| o_aload 0 <| o_getf 3 7 <| o_iload 1 <| o_iload 4 <| o_push (.int 1) <| o_iload 3 <| o_bin (fun x y => x - y) <| o_callS cal 39 3 <| o_iald 0 <| o_aload 0 <| o_getf 3 6 <| o_push (.int 2) <| o_iload 2 <| o_bin (fun x y => x * y) <| o_push (.int 1) <| o_bin (fun x y => x + y) <| o_iald 0 <| o_bin (fun x y => x - y) <| o_istore 6 <| o_iload 5 <| o_m1 (fun x => if 0 ≤ x then x else 0 - x) <| o_iload 6 <| o_m1 (fun x => if 0 ≤ x then x else 0 - x) <| o_bin (fun x y => x + y) <| o_ret (some .int)
def bX4_offAt (cal : ab_F) : List ab_K := [bX4_offAt_0 cal]
set_option maxRecDepth 100000 in
theorem sX4_offAt_0 {G : ab_G} {xs : List Int32} {d : Nat} {cal : ab_F} (hcs : ab_CS G (ab_Z G xs) ab_Mf cal d) : ab_Sd G (ab_Z G xs) (d + 1) (ab_mY mX4_offAt pX4_offAt) 0 (bX4_offAt_0 cal) :=
  sn_iload_n dX4_offAt_0 rfl <| sn_iconst dX4_offAt_1 rfl <| sn_idiv dX4_offAt_2 <| sn_istore dX4_offAt_3 (by decide) <| sn_aload_n dX4_offAt_5 rfl <| sn_getf dX4_offAt_6 rfl hinX4 (by decide) w_108 <| sn_iload_n dX4_offAt_9 rfl <| sn_iload dX4_offAt_10 <| sn_iload_n dX4_offAt_12 rfl <| sq_callS mt_39 hcs dX4_offAt_13 w_349 w_350 w_56 w_351 hy_39 hm_39 <| sn_iald dX4_offAt_16 rfl <| sn_aload_n dX4_offAt_17 rfl <| sn_getf dX4_offAt_18 rfl hinX4 (by decide) w_106 <| sn_iconst dX4_offAt_21 rfl <| sn_iload_n dX4_offAt_22 rfl <| sn_imul dX4_offAt_23 <| sn_iald dX4_offAt_24 rfl <| sn_isub dX4_offAt_25 <| sn_istore dX4_offAt_26 (by decide) <| sn_aload_n dX4_offAt_28 rfl <| sn_getf dX4_offAt_29 rfl hinX4 (by decide) w_108 <| sn_iload_n dX4_offAt_32 rfl <| sn_iload dX4_offAt_33 <| sn_iconst dX4_offAt_35 rfl <| sn_iload_n dX4_offAt_36 rfl <| sn_isub dX4_offAt_37 <| sq_callS mt_39 hcs dX4_offAt_38 w_349 w_350 w_56 w_351 hy_39 hm_39 <| sn_iald dX4_offAt_41 rfl <| sn_aload_n dX4_offAt_42 rfl <| sn_getf dX4_offAt_43 rfl hinX4 (by decide) w_106 <| sn_iconst dX4_offAt_46 rfl <| sn_iload_n dX4_offAt_47 rfl <| sn_imul dX4_offAt_48 <| sn_iconst dX4_offAt_49 rfl <| sn_iadd dX4_offAt_50 <| sn_iald dX4_offAt_51 rfl <| sn_isub dX4_offAt_52 <| sn_istore dX4_offAt_53 (by decide) <| sn_iload dX4_offAt_55 <| sn_mabs (Nat.le_add_left 1 _) rfl dX4_offAt_57 w_405 w_406 w_66 w_407 <| sn_iload dX4_offAt_60 <| sn_mabs (Nat.le_add_left 1 _) rfl dX4_offAt_62 w_405 w_406 w_66 w_407 <| sn_iadd dX4_offAt_65 <| sn_ret dX4_offAt_66 ab_ri_int
theorem sX4_offAt {G : ab_G} {xs : List Int32} {d : Nat} {cal : ab_F} (hcs : ab_CS G (ab_Z G xs) ab_Mf cal d) : ab_BS G (ab_Z G xs) (d + 1) (ab_mY mX4_offAt pX4_offAt) pX4_offAt (bX4_offAt cal) := ⟨sX4_offAt_0 hcs, trivial⟩
theorem dgX4_leastOff_0 : decode cX4_leastOff 0 = .ok (.aload_n 0, 1) ∧ decode cX4_leastOff 1 = .ok (.iload_n 1, 1) ∧ decode cX4_leastOff 2 = .ok (.iload_n 2, 1) ∧ decode cX4_leastOff 3 = .ok (.iconst 0, 1) ∧ decode cX4_leastOff 4 = .ok (.invokevirtual 130, 3) ∧ decode cX4_leastOff 7 = .ok (.aload_n 0, 1) ∧ decode cX4_leastOff 8 = .ok (.iload_n 1, 1) ∧ decode cX4_leastOff 9 = .ok (.iload_n 2, 1) ∧ decode cX4_leastOff 10 = .ok (.iconst 1, 1) ∧ decode cX4_leastOff 11 = .ok (.invokevirtual 130, 3) ∧ decode cX4_leastOff 14 = .ok (.invokestatic 133, 3) ∧ decode cX4_leastOff 17 = .ok (.ireturn, 1) := by decide +kernel
theorem dX4_leastOff_0 : decode cX4_leastOff 0 = .ok (.aload_n 0, 1) := dgX4_leastOff_0.1
theorem dX4_leastOff_1 : decode cX4_leastOff 1 = .ok (.iload_n 1, 1) := dgX4_leastOff_0.2.1
theorem dX4_leastOff_2 : decode cX4_leastOff 2 = .ok (.iload_n 2, 1) := dgX4_leastOff_0.2.2.1
theorem dX4_leastOff_3 : decode cX4_leastOff 3 = .ok (.iconst 0, 1) := dgX4_leastOff_0.2.2.2.1
theorem dX4_leastOff_4 : decode cX4_leastOff 4 = .ok (.invokevirtual 130, 3) := dgX4_leastOff_0.2.2.2.2.1
theorem dX4_leastOff_7 : decode cX4_leastOff 7 = .ok (.aload_n 0, 1) := dgX4_leastOff_0.2.2.2.2.2.1
theorem dX4_leastOff_8 : decode cX4_leastOff 8 = .ok (.iload_n 1, 1) := dgX4_leastOff_0.2.2.2.2.2.2.1
theorem dX4_leastOff_9 : decode cX4_leastOff 9 = .ok (.iload_n 2, 1) := dgX4_leastOff_0.2.2.2.2.2.2.2.1
theorem dX4_leastOff_10 : decode cX4_leastOff 10 = .ok (.iconst 1, 1) := dgX4_leastOff_0.2.2.2.2.2.2.2.2.1
theorem dX4_leastOff_11 : decode cX4_leastOff 11 = .ok (.invokevirtual 130, 3) := dgX4_leastOff_0.2.2.2.2.2.2.2.2.2.1
theorem dX4_leastOff_14 : decode cX4_leastOff 14 = .ok (.invokestatic 133, 3) := dgX4_leastOff_0.2.2.2.2.2.2.2.2.2.2.1
theorem dX4_leastOff_17 : decode cX4_leastOff 17 = .ok (.ireturn, 1) := dgX4_leastOff_0.2.2.2.2.2.2.2.2.2.2.2
abbrev pX4_leastOff : List Nat := [0]
def bX4_leastOff_0 (cal : ab_F) : ab_K := o_aload 0 <| o_iload 1 <| o_iload 2 <| o_push (.int 0) <| o_callV cal 42 3 3 <| o_aload 0 <| o_iload 1 <| o_iload 2 <| o_push (.int 1) <| o_callV cal 42 3 3 <| o_m2 (fun x y => if y < x then y else x) <| o_ret (some .int)
def bX4_leastOff (cal : ab_F) : List ab_K := [bX4_leastOff_0 cal]
set_option maxRecDepth 100000 in
theorem sX4_leastOff_0 {G : ab_G} {xs : List Int32} {d : Nat} {cal : ab_F} (hcs : ab_CS G (ab_Z G xs) ab_Mf cal d) : ab_Sd G (ab_Z G xs) (d + 1) (ab_mY mX4_leastOff pX4_leastOff) 0 (bX4_leastOff_0 cal) :=
  sn_aload_n dX4_leastOff_0 rfl <| sn_iload_n dX4_leastOff_1 rfl <| sn_iload_n dX4_leastOff_2 rfl <| sn_iconst dX4_leastOff_3 rfl <| sq_callV mt_42 hcs dX4_leastOff_4 rfl w_500 w_402 w_403 w_56 w_404 hy_42 hm_42 <| sn_aload_n dX4_leastOff_7 rfl <| sn_iload_n dX4_leastOff_8 rfl <| sn_iload_n dX4_leastOff_9 rfl <| sn_iconst dX4_leastOff_10 rfl <| sq_callV mt_42 hcs dX4_leastOff_11 rfl w_500 w_402 w_403 w_56 w_404 hy_42 hm_42 <| sn_mmin (Nat.le_add_left 1 _) rfl dX4_leastOff_14 w_553 w_372 w_66 w_373 <| sn_ret dX4_leastOff_17 ab_ri_int
theorem sX4_leastOff {G : ab_G} {xs : List Int32} {d : Nat} {cal : ab_F} (hcs : ab_CS G (ab_Z G xs) ab_Mf cal d) : ab_BS G (ab_Z G xs) (d + 1) (ab_mY mX4_leastOff pX4_leastOff) pX4_leastOff (bX4_leastOff cal) := ⟨sX4_leastOff_0 hcs, trivial⟩
theorem dgX4_isLaid_0 : decode cX4_isLaid 0 = .ok (.aload_n 0, 1) ∧ decode cX4_isLaid 1 = .ok (.getfield 21, 3) ∧ decode cX4_isLaid 4 = .ok (.iload_n 1, 1) ∧ decode cX4_isLaid 5 = .ok (.iaload, 1) ∧ decode cX4_isLaid 6 = .ok (.bipush 12, 2) ∧ decode cX4_isLaid 8 = .ok (.if_icmp .ge 7, 3) ∧ decode cX4_isLaid 11 = .ok (.iconst 1, 1) ∧ decode cX4_isLaid 12 = .ok (.goto 4, 3) ∧ decode cX4_isLaid 15 = .ok (.iconst 0, 1) ∧ decode cX4_isLaid 16 = .ok (.ireturn, 1) := by decide +kernel
theorem dX4_isLaid_0 : decode cX4_isLaid 0 = .ok (.aload_n 0, 1) := dgX4_isLaid_0.1
theorem dX4_isLaid_1 : decode cX4_isLaid 1 = .ok (.getfield 21, 3) := dgX4_isLaid_0.2.1
theorem dX4_isLaid_4 : decode cX4_isLaid 4 = .ok (.iload_n 1, 1) := dgX4_isLaid_0.2.2.1
theorem dX4_isLaid_5 : decode cX4_isLaid 5 = .ok (.iaload, 1) := dgX4_isLaid_0.2.2.2.1
theorem dX4_isLaid_6 : decode cX4_isLaid 6 = .ok (.bipush 12, 2) := dgX4_isLaid_0.2.2.2.2.1
theorem dX4_isLaid_8 : decode cX4_isLaid 8 = .ok (.if_icmp .ge 7, 3) := dgX4_isLaid_0.2.2.2.2.2.1
theorem dX4_isLaid_11 : decode cX4_isLaid 11 = .ok (.iconst 1, 1) := dgX4_isLaid_0.2.2.2.2.2.2.1
theorem dX4_isLaid_12 : decode cX4_isLaid 12 = .ok (.goto 4, 3) := dgX4_isLaid_0.2.2.2.2.2.2.2.1
theorem dX4_isLaid_15 : decode cX4_isLaid 15 = .ok (.iconst 0, 1) := dgX4_isLaid_0.2.2.2.2.2.2.2.2.1
theorem dX4_isLaid_16 : decode cX4_isLaid 16 = .ok (.ireturn, 1) := dgX4_isLaid_0.2.2.2.2.2.2.2.2.2
abbrev pX4_isLaid : List Nat := [0, 15, 16]
def bX4_isLaid_0 (cal : ab_F) : ab_K := o_aload 0 <| o_getf 3 3 <| o_iload 1 <| o_iald 0 <| o_push (.int 12) <| o_cmp (fun x y => decide (y ≤ x)) 1 <| o_push (.int 1) <| o_goto 2
def bX4_isLaid_1 (cal : ab_F) : ab_K := o_push (.int 0) <| o_goto 2
def bX4_isLaid_2 (cal : ab_F) : ab_K := o_ret (some .boolean)
def bX4_isLaid (cal : ab_F) : List ab_K := [bX4_isLaid_0 cal, bX4_isLaid_1 cal, bX4_isLaid_2 cal]
set_option maxRecDepth 100000 in
theorem sX4_isLaid_0 {G : ab_G} {xs : List Int32} {d : Nat} {cal : ab_F} (hcs : ab_CS G (ab_Z G xs) ab_Mf cal d) : ab_Sd G (ab_Z G xs) (d + 1) (ab_mY mX4_isLaid pX4_isLaid) 0 (bX4_isLaid_0 cal) :=
  sn_aload_n dX4_isLaid_0 rfl <| sn_getf dX4_isLaid_1 rfl hinX4 (by decide) w_99 <| sn_iload_n dX4_isLaid_4 rfl <| sn_iald dX4_isLaid_5 rfl <| sn_bipush dX4_isLaid_6 rfl <| sn_cmp_ge (tg := 15) dX4_isLaid_8 rfl rfl <| sn_iconst dX4_isLaid_11 rfl <| sn_goto (tg := 16) dX4_isLaid_12 rfl rfl
set_option maxRecDepth 100000 in
theorem sX4_isLaid_1 {G : ab_G} {xs : List Int32} {d : Nat} {cal : ab_F} (hcs : ab_CS G (ab_Z G xs) ab_Mf cal d) : ab_Sd G (ab_Z G xs) (d + 1) (ab_mY mX4_isLaid pX4_isLaid) 15 (bX4_isLaid_1 cal) :=
  sn_iconst dX4_isLaid_15 rfl <| sn_next rfl
set_option maxRecDepth 100000 in
theorem sX4_isLaid_2 {G : ab_G} {xs : List Int32} {d : Nat} {cal : ab_F} (hcs : ab_CS G (ab_Z G xs) ab_Mf cal d) : ab_Sd G (ab_Z G xs) (d + 1) (ab_mY mX4_isLaid pX4_isLaid) 16 (bX4_isLaid_2 cal) :=
  sn_ret dX4_isLaid_16 ab_ri_bool
theorem sX4_isLaid {G : ab_G} {xs : List Int32} {d : Nat} {cal : ab_F} (hcs : ab_CS G (ab_Z G xs) ab_Mf cal d) : ab_BS G (ab_Z G xs) (d + 1) (ab_mY mX4_isLaid pX4_isLaid) pX4_isLaid (bX4_isLaid cal) := ⟨sX4_isLaid_0 hcs, sX4_isLaid_1 hcs, sX4_isLaid_2 hcs, trivial⟩
theorem dgX4_moveTo_0 : decode cX4_moveTo 0 = .ok (.aload_n 0, 1) ∧ decode cX4_moveTo 1 = .ok (.iload_n 1, 1) ∧ decode cX4_moveTo 2 = .ok (.invokevirtual 136, 3) ∧ decode cX4_moveTo 5 = .ok (.ifCond .eq 15, 3) ∧ decode cX4_moveTo 8 = .ok (.aload_n 0, 1) ∧ decode cX4_moveTo 9 = .ok (.getfield 27, 3) ∧ decode cX4_moveTo 12 = .ok (.aload_n 0, 1) ∧ decode cX4_moveTo 13 = .ok (.getfield 21, 3) ∧ decode cX4_moveTo 16 = .ok (.iload_n 1, 1) ∧ decode cX4_moveTo 17 = .ok (.iaload, 1) ∧ decode cX4_moveTo 18 = .ok (.iconst (-1), 1) ∧ decode cX4_moveTo 19 = .ok (.iastore, 1) ∧ decode cX4_moveTo 20 = .ok (.aload_n 0, 1) ∧ decode cX4_moveTo 21 = .ok (.getfield 21, 3) ∧ decode cX4_moveTo 24 = .ok (.iload_n 1, 1) ∧ decode cX4_moveTo 25 = .ok (.iload_n 2, 1) := by decide +kernel
theorem dX4_moveTo_0 : decode cX4_moveTo 0 = .ok (.aload_n 0, 1) := dgX4_moveTo_0.1
theorem dX4_moveTo_1 : decode cX4_moveTo 1 = .ok (.iload_n 1, 1) := dgX4_moveTo_0.2.1
theorem dX4_moveTo_2 : decode cX4_moveTo 2 = .ok (.invokevirtual 136, 3) := dgX4_moveTo_0.2.2.1
theorem dX4_moveTo_5 : decode cX4_moveTo 5 = .ok (.ifCond .eq 15, 3) := dgX4_moveTo_0.2.2.2.1
theorem dX4_moveTo_8 : decode cX4_moveTo 8 = .ok (.aload_n 0, 1) := dgX4_moveTo_0.2.2.2.2.1
theorem dX4_moveTo_9 : decode cX4_moveTo 9 = .ok (.getfield 27, 3) := dgX4_moveTo_0.2.2.2.2.2.1
theorem dX4_moveTo_12 : decode cX4_moveTo 12 = .ok (.aload_n 0, 1) := dgX4_moveTo_0.2.2.2.2.2.2.1
theorem dX4_moveTo_13 : decode cX4_moveTo 13 = .ok (.getfield 21, 3) := dgX4_moveTo_0.2.2.2.2.2.2.2.1
theorem dX4_moveTo_16 : decode cX4_moveTo 16 = .ok (.iload_n 1, 1) := dgX4_moveTo_0.2.2.2.2.2.2.2.2.1
theorem dX4_moveTo_17 : decode cX4_moveTo 17 = .ok (.iaload, 1) := dgX4_moveTo_0.2.2.2.2.2.2.2.2.2.1
theorem dX4_moveTo_18 : decode cX4_moveTo 18 = .ok (.iconst (-1), 1) := dgX4_moveTo_0.2.2.2.2.2.2.2.2.2.2.1
theorem dX4_moveTo_19 : decode cX4_moveTo 19 = .ok (.iastore, 1) := dgX4_moveTo_0.2.2.2.2.2.2.2.2.2.2.2.1
theorem dX4_moveTo_20 : decode cX4_moveTo 20 = .ok (.aload_n 0, 1) := dgX4_moveTo_0.2.2.2.2.2.2.2.2.2.2.2.2.1
theorem dX4_moveTo_21 : decode cX4_moveTo 21 = .ok (.getfield 21, 3) := dgX4_moveTo_0.2.2.2.2.2.2.2.2.2.2.2.2.2.1
theorem dX4_moveTo_24 : decode cX4_moveTo 24 = .ok (.iload_n 1, 1) := dgX4_moveTo_0.2.2.2.2.2.2.2.2.2.2.2.2.2.2.1
theorem dX4_moveTo_25 : decode cX4_moveTo 25 = .ok (.iload_n 2, 1) := dgX4_moveTo_0.2.2.2.2.2.2.2.2.2.2.2.2.2.2.2
theorem dgX4_moveTo_1 : decode cX4_moveTo 26 = .ok (.iastore, 1) ∧ decode cX4_moveTo 27 = .ok (.iload_n 2, 1) ∧ decode cX4_moveTo 28 = .ok (.bipush 12, 2) ∧ decode cX4_moveTo 30 = .ok (.if_icmp .ge 10, 3) ∧ decode cX4_moveTo 33 = .ok (.aload_n 0, 1) ∧ decode cX4_moveTo 34 = .ok (.getfield 27, 3) ∧ decode cX4_moveTo 37 = .ok (.iload_n 2, 1) ∧ decode cX4_moveTo 38 = .ok (.iload_n 1, 1) ∧ decode cX4_moveTo 39 = .ok (.iastore, 1) ∧ decode cX4_moveTo 40 = .ok (.return_, 1) := by decide +kernel
theorem dX4_moveTo_26 : decode cX4_moveTo 26 = .ok (.iastore, 1) := dgX4_moveTo_1.1
theorem dX4_moveTo_27 : decode cX4_moveTo 27 = .ok (.iload_n 2, 1) := dgX4_moveTo_1.2.1
theorem dX4_moveTo_28 : decode cX4_moveTo 28 = .ok (.bipush 12, 2) := dgX4_moveTo_1.2.2.1
theorem dX4_moveTo_30 : decode cX4_moveTo 30 = .ok (.if_icmp .ge 10, 3) := dgX4_moveTo_1.2.2.2.1
theorem dX4_moveTo_33 : decode cX4_moveTo 33 = .ok (.aload_n 0, 1) := dgX4_moveTo_1.2.2.2.2.1
theorem dX4_moveTo_34 : decode cX4_moveTo 34 = .ok (.getfield 27, 3) := dgX4_moveTo_1.2.2.2.2.2.1
theorem dX4_moveTo_37 : decode cX4_moveTo 37 = .ok (.iload_n 2, 1) := dgX4_moveTo_1.2.2.2.2.2.2.1
theorem dX4_moveTo_38 : decode cX4_moveTo 38 = .ok (.iload_n 1, 1) := dgX4_moveTo_1.2.2.2.2.2.2.2.1
theorem dX4_moveTo_39 : decode cX4_moveTo 39 = .ok (.iastore, 1) := dgX4_moveTo_1.2.2.2.2.2.2.2.2.1
theorem dX4_moveTo_40 : decode cX4_moveTo 40 = .ok (.return_, 1) := dgX4_moveTo_1.2.2.2.2.2.2.2.2.2
abbrev pX4_moveTo : List Nat := [0, 20, 40]
def bX4_moveTo_0 (cal : ab_F) : ab_K := o_aload 0 <| o_iload 1 <| o_callV cal 44 1 3 <| o_if (fun x => decide (x = 0)) 1 <| o_aload 0 <| o_getf 3 5 <| o_aload 0 <| o_getf 3 3 <| o_iload 1 <| o_iald 0 <| o_push (.int (-1)) <| o_iast 0 (fun x => x) <| o_goto 1
def bX4_moveTo_1 (cal : ab_F) : ab_K := o_aload 0 <| o_getf 3 3 <| o_iload 1 <| o_iload 2 <| o_iast 0 (fun x => x) <| o_iload 2 <| o_push (.int 12) <| o_cmp (fun x y => decide (y ≤ x)) 2 <| o_aload 0 <| o_getf 3 5 <| o_iload 2 <| o_iload 1 <| o_iast 0 (fun x => x) <| o_goto 2
def bX4_moveTo_2 (cal : ab_F) : ab_K := o_ret none
def bX4_moveTo (cal : ab_F) : List ab_K := [bX4_moveTo_0 cal, bX4_moveTo_1 cal, bX4_moveTo_2 cal]
set_option maxRecDepth 100000 in
theorem sX4_moveTo_0 {G : ab_G} {xs : List Int32} {d : Nat} {cal : ab_F} (hcs : ab_CS G (ab_Z G xs) ab_Mf cal d) : ab_Sd G (ab_Z G xs) (d + 1) (ab_mY mX4_moveTo pX4_moveTo) 0 (bX4_moveTo_0 cal) :=
  sn_aload_n dX4_moveTo_0 rfl <| sn_iload_n dX4_moveTo_1 rfl <| sq_callV mt_44 hcs dX4_moveTo_2 rfl w_432 w_433 w_434 w_56 w_435 hy_44 hm_44 <| sn_if_eq (tg := 20) dX4_moveTo_5 rfl rfl <| sn_aload_n dX4_moveTo_8 rfl <| sn_getf dX4_moveTo_9 rfl hinX4 (by decide) w_104 <| sn_aload_n dX4_moveTo_12 rfl <| sn_getf dX4_moveTo_13 rfl hinX4 (by decide) w_99 <| sn_iload_n dX4_moveTo_16 rfl <| sn_iald dX4_moveTo_17 rfl <| sn_iconst dX4_moveTo_18 rfl <| sn_iast dX4_moveTo_19 rfl rfl <| sn_next rfl
set_option maxRecDepth 100000 in
theorem sX4_moveTo_1 {G : ab_G} {xs : List Int32} {d : Nat} {cal : ab_F} (hcs : ab_CS G (ab_Z G xs) ab_Mf cal d) : ab_Sd G (ab_Z G xs) (d + 1) (ab_mY mX4_moveTo pX4_moveTo) 20 (bX4_moveTo_1 cal) :=
  sn_aload_n dX4_moveTo_20 rfl <| sn_getf dX4_moveTo_21 rfl hinX4 (by decide) w_99 <| sn_iload_n dX4_moveTo_24 rfl <| sn_iload_n dX4_moveTo_25 rfl <| sn_iast dX4_moveTo_26 rfl rfl <| sn_iload_n dX4_moveTo_27 rfl <| sn_bipush dX4_moveTo_28 rfl <| sn_cmp_ge (tg := 40) dX4_moveTo_30 rfl rfl <| sn_aload_n dX4_moveTo_33 rfl <| sn_getf dX4_moveTo_34 rfl hinX4 (by decide) w_104 <| sn_iload_n dX4_moveTo_37 rfl <| sn_iload_n dX4_moveTo_38 rfl <| sn_iast dX4_moveTo_39 rfl rfl <| sn_next rfl
set_option maxRecDepth 100000 in
theorem sX4_moveTo_2 {G : ab_G} {xs : List Int32} {d : Nat} {cal : ab_F} (hcs : ab_CS G (ab_Z G xs) ab_Mf cal d) : ab_Sd G (ab_Z G xs) (d + 1) (ab_mY mX4_moveTo pX4_moveTo) 40 (bX4_moveTo_2 cal) :=
  sn_ret dX4_moveTo_40 ab_ri_void
theorem sX4_moveTo {G : ab_G} {xs : List Int32} {d : Nat} {cal : ab_F} (hcs : ab_CS G (ab_Z G xs) ab_Mf cal d) : ab_BS G (ab_Z G xs) (d + 1) (ab_mY mX4_moveTo pX4_moveTo) pX4_moveTo (bX4_moveTo cal) := ⟨sX4_moveTo_0 hcs, sX4_moveTo_1 hcs, sX4_moveTo_2 hcs, trivial⟩
theorem dgX4_picture_0 : decode cX4_picture 0 = .ok (.iconst 0, 1) ∧ decode cX4_picture 1 = .ok (.istore_n 1, 1) ∧ decode cX4_picture 2 = .ok (.iconst 0, 1) ∧ decode cX4_picture 3 = .ok (.istore_n 2, 1) ∧ decode cX4_picture 4 = .ok (.iload_n 2, 1) ∧ decode cX4_picture 5 = .ok (.bipush 12, 2) ∧ decode cX4_picture 7 = .ok (.if_icmp .ge 42, 3) ∧ decode cX4_picture 10 = .ok (.aload_n 0, 1) ∧ decode cX4_picture 11 = .ok (.getfield 27, 3) ∧ decode cX4_picture 14 = .ok (.iload_n 2, 1) ∧ decode cX4_picture 15 = .ok (.iaload, 1) ∧ decode cX4_picture 16 = .ok (.istore_n 3, 1) ∧ decode cX4_picture 17 = .ok (.iload_n 1, 1) ∧ decode cX4_picture 18 = .ok (.iload_n 3, 1) ∧ decode cX4_picture 19 = .ok (.iconst (-1), 1) ∧ decode cX4_picture 20 = .ok (.if_icmp .ne 9, 3) := by decide +kernel
theorem dX4_picture_0 : decode cX4_picture 0 = .ok (.iconst 0, 1) := dgX4_picture_0.1
theorem dX4_picture_1 : decode cX4_picture 1 = .ok (.istore_n 1, 1) := dgX4_picture_0.2.1
theorem dX4_picture_2 : decode cX4_picture 2 = .ok (.iconst 0, 1) := dgX4_picture_0.2.2.1
theorem dX4_picture_3 : decode cX4_picture 3 = .ok (.istore_n 2, 1) := dgX4_picture_0.2.2.2.1
theorem dX4_picture_4 : decode cX4_picture 4 = .ok (.iload_n 2, 1) := dgX4_picture_0.2.2.2.2.1
theorem dX4_picture_5 : decode cX4_picture 5 = .ok (.bipush 12, 2) := dgX4_picture_0.2.2.2.2.2.1
theorem dX4_picture_7 : decode cX4_picture 7 = .ok (.if_icmp .ge 42, 3) := dgX4_picture_0.2.2.2.2.2.2.1
theorem dX4_picture_10 : decode cX4_picture 10 = .ok (.aload_n 0, 1) := dgX4_picture_0.2.2.2.2.2.2.2.1
theorem dX4_picture_11 : decode cX4_picture 11 = .ok (.getfield 27, 3) := dgX4_picture_0.2.2.2.2.2.2.2.2.1
theorem dX4_picture_14 : decode cX4_picture 14 = .ok (.iload_n 2, 1) := dgX4_picture_0.2.2.2.2.2.2.2.2.2.1
theorem dX4_picture_15 : decode cX4_picture 15 = .ok (.iaload, 1) := dgX4_picture_0.2.2.2.2.2.2.2.2.2.2.1
theorem dX4_picture_16 : decode cX4_picture 16 = .ok (.istore_n 3, 1) := dgX4_picture_0.2.2.2.2.2.2.2.2.2.2.2.1
theorem dX4_picture_17 : decode cX4_picture 17 = .ok (.iload_n 1, 1) := dgX4_picture_0.2.2.2.2.2.2.2.2.2.2.2.2.1
theorem dX4_picture_18 : decode cX4_picture 18 = .ok (.iload_n 3, 1) := dgX4_picture_0.2.2.2.2.2.2.2.2.2.2.2.2.2.1
theorem dX4_picture_19 : decode cX4_picture 19 = .ok (.iconst (-1), 1) := dgX4_picture_0.2.2.2.2.2.2.2.2.2.2.2.2.2.2.1
theorem dX4_picture_20 : decode cX4_picture 20 = .ok (.if_icmp .ne 9, 3) := dgX4_picture_0.2.2.2.2.2.2.2.2.2.2.2.2.2.2.2
theorem dgX4_picture_1 : decode cX4_picture 23 = .ok (.sipush 198, 3) ∧ decode cX4_picture 26 = .ok (.goto 15, 3) ∧ decode cX4_picture 29 = .ok (.aload_n 0, 1) ∧ decode cX4_picture 30 = .ok (.iload_n 3, 1) ∧ decode cX4_picture 31 = .ok (.iload_n 2, 1) ∧ decode cX4_picture 32 = .ok (.aload_n 0, 1) ∧ decode cX4_picture 33 = .ok (.getfield 24, 3) ∧ decode cX4_picture 36 = .ok (.iload_n 3, 1) ∧ decode cX4_picture 37 = .ok (.iaload, 1) ∧ decode cX4_picture 38 = .ok (.invokevirtual 130, 3) ∧ decode cX4_picture 41 = .ok (.iadd, 1) ∧ decode cX4_picture 42 = .ok (.istore_n 1, 1) ∧ decode cX4_picture 43 = .ok (.iinc 2 1, 3) ∧ decode cX4_picture 46 = .ok (.goto (-42), 3) ∧ decode cX4_picture 49 = .ok (.iload_n 1, 1) ∧ decode cX4_picture 50 = .ok (.ireturn, 1) := by decide +kernel
theorem dX4_picture_23 : decode cX4_picture 23 = .ok (.sipush 198, 3) := dgX4_picture_1.1
theorem dX4_picture_26 : decode cX4_picture 26 = .ok (.goto 15, 3) := dgX4_picture_1.2.1
theorem dX4_picture_29 : decode cX4_picture 29 = .ok (.aload_n 0, 1) := dgX4_picture_1.2.2.1
theorem dX4_picture_30 : decode cX4_picture 30 = .ok (.iload_n 3, 1) := dgX4_picture_1.2.2.2.1
theorem dX4_picture_31 : decode cX4_picture 31 = .ok (.iload_n 2, 1) := dgX4_picture_1.2.2.2.2.1
theorem dX4_picture_32 : decode cX4_picture 32 = .ok (.aload_n 0, 1) := dgX4_picture_1.2.2.2.2.2.1
theorem dX4_picture_33 : decode cX4_picture 33 = .ok (.getfield 24, 3) := dgX4_picture_1.2.2.2.2.2.2.1
theorem dX4_picture_36 : decode cX4_picture 36 = .ok (.iload_n 3, 1) := dgX4_picture_1.2.2.2.2.2.2.2.1
theorem dX4_picture_37 : decode cX4_picture 37 = .ok (.iaload, 1) := dgX4_picture_1.2.2.2.2.2.2.2.2.1
theorem dX4_picture_38 : decode cX4_picture 38 = .ok (.invokevirtual 130, 3) := dgX4_picture_1.2.2.2.2.2.2.2.2.2.1
theorem dX4_picture_41 : decode cX4_picture 41 = .ok (.iadd, 1) := dgX4_picture_1.2.2.2.2.2.2.2.2.2.2.1
theorem dX4_picture_42 : decode cX4_picture 42 = .ok (.istore_n 1, 1) := dgX4_picture_1.2.2.2.2.2.2.2.2.2.2.2.1
theorem dX4_picture_43 : decode cX4_picture 43 = .ok (.iinc 2 1, 3) := dgX4_picture_1.2.2.2.2.2.2.2.2.2.2.2.2.1
theorem dX4_picture_46 : decode cX4_picture 46 = .ok (.goto (-42), 3) := dgX4_picture_1.2.2.2.2.2.2.2.2.2.2.2.2.2.1
theorem dX4_picture_49 : decode cX4_picture 49 = .ok (.iload_n 1, 1) := dgX4_picture_1.2.2.2.2.2.2.2.2.2.2.2.2.2.2.1
theorem dX4_picture_50 : decode cX4_picture 50 = .ok (.ireturn, 1) := dgX4_picture_1.2.2.2.2.2.2.2.2.2.2.2.2.2.2.2
abbrev pX4_picture : List Nat := [0, 4, 29, 41, 49]
def bX4_picture_0 (cal : ab_F) : ab_K := o_push (.int 0) <| o_istore 1 <| o_push (.int 0) <| o_istore 2 <| o_goto 1
def bX4_picture_1 (cal : ab_F) : ab_K := o_iload 2 <| o_push (.int 12) <| o_cmp (fun x y => decide (y ≤ x)) 4 <| o_aload 0 <| o_getf 3 5 <| o_iload 2 <| o_iald 0 <| o_istore 3 <| o_iload 1 <| o_iload 3 <| o_push (.int (-1)) <| o_cmp (fun x y => decide (¬ x = y)) 2 <| o_push (.int 198) <| o_goto 3
def bX4_picture_2 (cal : ab_F) : ab_K := o_aload 0 <| o_iload 3 <| o_iload 2 <| o_aload 0 <| o_getf 3 4 <| o_iload 3 <| o_iald 0 <| o_callV cal 42 3 3 <| o_goto 3
def bX4_picture_3 (cal : ab_F) : ab_K := o_bin (fun x y => x + y) <| o_istore 1 <| o_iinc 2 1 <| o_goto 1
def bX4_picture_4 (cal : ab_F) : ab_K := o_iload 1 <| o_ret (some .int)
def bX4_picture (cal : ab_F) : List ab_K := [bX4_picture_0 cal, bX4_picture_1 cal, bX4_picture_2 cal, bX4_picture_3 cal, bX4_picture_4 cal]
set_option maxRecDepth 100000 in
theorem sX4_picture_0 {G : ab_G} {xs : List Int32} {d : Nat} {cal : ab_F} (hcs : ab_CS G (ab_Z G xs) ab_Mf cal d) : ab_Sd G (ab_Z G xs) (d + 1) (ab_mY mX4_picture pX4_picture) 0 (bX4_picture_0 cal) :=
  sn_iconst dX4_picture_0 rfl <| sn_istore_n dX4_picture_1 rfl (by decide) <| sn_iconst dX4_picture_2 rfl <| sn_istore_n dX4_picture_3 rfl (by decide) <| sn_next rfl
set_option maxRecDepth 100000 in
theorem sX4_picture_1 {G : ab_G} {xs : List Int32} {d : Nat} {cal : ab_F} (hcs : ab_CS G (ab_Z G xs) ab_Mf cal d) : ab_Sd G (ab_Z G xs) (d + 1) (ab_mY mX4_picture pX4_picture) 4 (bX4_picture_1 cal) :=
  sn_iload_n dX4_picture_4 rfl <| sn_bipush dX4_picture_5 rfl <| sn_cmp_ge (tg := 49) dX4_picture_7 rfl rfl <| sn_aload_n dX4_picture_10 rfl <| sn_getf dX4_picture_11 rfl hinX4 (by decide) w_104 <| sn_iload_n dX4_picture_14 rfl <| sn_iald dX4_picture_15 rfl <| sn_istore_n dX4_picture_16 rfl (by decide) <| sn_iload_n dX4_picture_17 rfl <| sn_iload_n dX4_picture_18 rfl <| sn_iconst dX4_picture_19 rfl <| sn_cmp_ne (tg := 29) dX4_picture_20 rfl rfl <| sn_sipush dX4_picture_23 rfl <| sn_goto (tg := 41) dX4_picture_26 rfl rfl
set_option maxRecDepth 100000 in
theorem sX4_picture_2 {G : ab_G} {xs : List Int32} {d : Nat} {cal : ab_F} (hcs : ab_CS G (ab_Z G xs) ab_Mf cal d) : ab_Sd G (ab_Z G xs) (d + 1) (ab_mY mX4_picture pX4_picture) 29 (bX4_picture_2 cal) :=
  sn_aload_n dX4_picture_29 rfl <| sn_iload_n dX4_picture_30 rfl <| sn_iload_n dX4_picture_31 rfl <| sn_aload_n dX4_picture_32 rfl <| sn_getf dX4_picture_33 rfl hinX4 (by decide) w_102 <| sn_iload_n dX4_picture_36 rfl <| sn_iald dX4_picture_37 rfl <| sq_callV mt_42 hcs dX4_picture_38 rfl w_500 w_402 w_403 w_56 w_404 hy_42 hm_42 <| sn_next rfl
set_option maxRecDepth 100000 in
theorem sX4_picture_3 {G : ab_G} {xs : List Int32} {d : Nat} {cal : ab_F} (hcs : ab_CS G (ab_Z G xs) ab_Mf cal d) : ab_Sd G (ab_Z G xs) (d + 1) (ab_mY mX4_picture pX4_picture) 41 (bX4_picture_3 cal) :=
  sn_iadd dX4_picture_41 <| sn_istore_n dX4_picture_42 rfl (by decide) <| sn_iinc dX4_picture_43 rfl (by decide) <| sn_goto (tg := 4) dX4_picture_46 rfl rfl
set_option maxRecDepth 100000 in
theorem sX4_picture_4 {G : ab_G} {xs : List Int32} {d : Nat} {cal : ab_F} (hcs : ab_CS G (ab_Z G xs) ab_Mf cal d) : ab_Sd G (ab_Z G xs) (d + 1) (ab_mY mX4_picture pX4_picture) 49 (bX4_picture_4 cal) :=
  sn_iload_n dX4_picture_49 rfl <| sn_ret dX4_picture_50 ab_ri_int
theorem sX4_picture {G : ab_G} {xs : List Int32} {d : Nat} {cal : ab_F} (hcs : ab_CS G (ab_Z G xs) ab_Mf cal d) : ab_BS G (ab_Z G xs) (d + 1) (ab_mY mX4_picture pX4_picture) pX4_picture (bX4_picture cal) := ⟨sX4_picture_0 hcs, sX4_picture_1 hcs, sX4_picture_2 hcs, sX4_picture_3 hcs, sX4_picture_4 hcs, trivial⟩
theorem dgX4_matches_0 : decode cX4_matches 0 = .ok (.iconst 0, 1) ∧ decode cX4_matches 1 = .ok (.istore_n 1, 1) ∧ decode cX4_matches 2 = .ok (.iconst 0, 1) ∧ decode cX4_matches 3 = .ok (.istore_n 2, 1) ∧ decode cX4_matches 4 = .ok (.iload_n 2, 1) ∧ decode cX4_matches 5 = .ok (.iconst 1, 1) ∧ decode cX4_matches 6 = .ok (.iadd, 1) ∧ decode cX4_matches 7 = .ok (.bipush 12, 2) ∧ decode cX4_matches 9 = .ok (.if_icmp .ge 51, 3) ∧ decode cX4_matches 12 = .ok (.iload_n 2, 1) ∧ decode cX4_matches 13 = .ok (.iconst 1, 1) ∧ decode cX4_matches 14 = .ok (.iadd, 1) ∧ decode cX4_matches 15 = .ok (.iconst 3, 1) ∧ decode cX4_matches 16 = .ok (.irem, 1) ∧ decode cX4_matches 17 = .ok (.ifCond .eq 7, 3) ∧ decode cX4_matches 20 = .ok (.iconst 1, 1) := by decide +kernel
theorem dX4_matches_0 : decode cX4_matches 0 = .ok (.iconst 0, 1) := dgX4_matches_0.1
theorem dX4_matches_1 : decode cX4_matches 1 = .ok (.istore_n 1, 1) := dgX4_matches_0.2.1
theorem dX4_matches_2 : decode cX4_matches 2 = .ok (.iconst 0, 1) := dgX4_matches_0.2.2.1
theorem dX4_matches_3 : decode cX4_matches 3 = .ok (.istore_n 2, 1) := dgX4_matches_0.2.2.2.1
theorem dX4_matches_4 : decode cX4_matches 4 = .ok (.iload_n 2, 1) := dgX4_matches_0.2.2.2.2.1
theorem dX4_matches_5 : decode cX4_matches 5 = .ok (.iconst 1, 1) := dgX4_matches_0.2.2.2.2.2.1
theorem dX4_matches_6 : decode cX4_matches 6 = .ok (.iadd, 1) := dgX4_matches_0.2.2.2.2.2.2.1
theorem dX4_matches_7 : decode cX4_matches 7 = .ok (.bipush 12, 2) := dgX4_matches_0.2.2.2.2.2.2.2.1
theorem dX4_matches_9 : decode cX4_matches 9 = .ok (.if_icmp .ge 51, 3) := dgX4_matches_0.2.2.2.2.2.2.2.2.1
theorem dX4_matches_12 : decode cX4_matches 12 = .ok (.iload_n 2, 1) := dgX4_matches_0.2.2.2.2.2.2.2.2.2.1
theorem dX4_matches_13 : decode cX4_matches 13 = .ok (.iconst 1, 1) := dgX4_matches_0.2.2.2.2.2.2.2.2.2.2.1
theorem dX4_matches_14 : decode cX4_matches 14 = .ok (.iadd, 1) := dgX4_matches_0.2.2.2.2.2.2.2.2.2.2.2.1
theorem dX4_matches_15 : decode cX4_matches 15 = .ok (.iconst 3, 1) := dgX4_matches_0.2.2.2.2.2.2.2.2.2.2.2.2.1
theorem dX4_matches_16 : decode cX4_matches 16 = .ok (.irem, 1) := dgX4_matches_0.2.2.2.2.2.2.2.2.2.2.2.2.2.1
theorem dX4_matches_17 : decode cX4_matches 17 = .ok (.ifCond .eq 7, 3) := dgX4_matches_0.2.2.2.2.2.2.2.2.2.2.2.2.2.2.1
theorem dX4_matches_20 : decode cX4_matches 20 = .ok (.iconst 1, 1) := dgX4_matches_0.2.2.2.2.2.2.2.2.2.2.2.2.2.2.2
theorem dgX4_matches_1 : decode cX4_matches 21 = .ok (.goto 4, 3) ∧ decode cX4_matches 24 = .ok (.iconst 0, 1) ∧ decode cX4_matches 25 = .ok (.istore_n 3, 1) ∧ decode cX4_matches 26 = .ok (.iload_n 3, 1) ∧ decode cX4_matches 27 = .ok (.ifCond .eq 27, 3) ∧ decode cX4_matches 30 = .ok (.aload_n 0, 1) ∧ decode cX4_matches 31 = .ok (.aload_n 0, 1) ∧ decode cX4_matches 32 = .ok (.getfield 27, 3) ∧ decode cX4_matches 35 = .ok (.iload_n 2, 1) ∧ decode cX4_matches 36 = .ok (.iaload, 1) ∧ decode cX4_matches 37 = .ok (.aload_n 0, 1) ∧ decode cX4_matches 38 = .ok (.getfield 27, 3) ∧ decode cX4_matches 41 = .ok (.iload_n 2, 1) ∧ decode cX4_matches 42 = .ok (.iconst 1, 1) ∧ decode cX4_matches 43 = .ok (.iadd, 1) ∧ decode cX4_matches 44 = .ok (.iaload, 1) := by decide +kernel
theorem dX4_matches_21 : decode cX4_matches 21 = .ok (.goto 4, 3) := dgX4_matches_1.1
theorem dX4_matches_24 : decode cX4_matches 24 = .ok (.iconst 0, 1) := dgX4_matches_1.2.1
theorem dX4_matches_25 : decode cX4_matches 25 = .ok (.istore_n 3, 1) := dgX4_matches_1.2.2.1
theorem dX4_matches_26 : decode cX4_matches 26 = .ok (.iload_n 3, 1) := dgX4_matches_1.2.2.2.1
theorem dX4_matches_27 : decode cX4_matches 27 = .ok (.ifCond .eq 27, 3) := dgX4_matches_1.2.2.2.2.1
theorem dX4_matches_30 : decode cX4_matches 30 = .ok (.aload_n 0, 1) := dgX4_matches_1.2.2.2.2.2.1
theorem dX4_matches_31 : decode cX4_matches 31 = .ok (.aload_n 0, 1) := dgX4_matches_1.2.2.2.2.2.2.1
theorem dX4_matches_32 : decode cX4_matches 32 = .ok (.getfield 27, 3) := dgX4_matches_1.2.2.2.2.2.2.2.1
theorem dX4_matches_35 : decode cX4_matches 35 = .ok (.iload_n 2, 1) := dgX4_matches_1.2.2.2.2.2.2.2.2.1
theorem dX4_matches_36 : decode cX4_matches 36 = .ok (.iaload, 1) := dgX4_matches_1.2.2.2.2.2.2.2.2.2.1
theorem dX4_matches_37 : decode cX4_matches 37 = .ok (.aload_n 0, 1) := dgX4_matches_1.2.2.2.2.2.2.2.2.2.2.1
theorem dX4_matches_38 : decode cX4_matches 38 = .ok (.getfield 27, 3) := dgX4_matches_1.2.2.2.2.2.2.2.2.2.2.2.1
theorem dX4_matches_41 : decode cX4_matches 41 = .ok (.iload_n 2, 1) := dgX4_matches_1.2.2.2.2.2.2.2.2.2.2.2.2.1
theorem dX4_matches_42 : decode cX4_matches 42 = .ok (.iconst 1, 1) := dgX4_matches_1.2.2.2.2.2.2.2.2.2.2.2.2.2.1
theorem dX4_matches_43 : decode cX4_matches 43 = .ok (.iadd, 1) := dgX4_matches_1.2.2.2.2.2.2.2.2.2.2.2.2.2.2.1
theorem dX4_matches_44 : decode cX4_matches 44 = .ok (.iaload, 1) := dgX4_matches_1.2.2.2.2.2.2.2.2.2.2.2.2.2.2.2
theorem dgX4_matches_2 : decode cX4_matches 45 = .ok (.invokevirtual 140, 3) ∧ decode cX4_matches 48 = .ok (.ifCond .eq 6, 3) ∧ decode cX4_matches 51 = .ok (.iinc 1 1, 3) ∧ decode cX4_matches 54 = .ok (.iinc 2 1, 3) ∧ decode cX4_matches 57 = .ok (.goto (-53), 3) ∧ decode cX4_matches 60 = .ok (.iload_n 1, 1) ∧ decode cX4_matches 61 = .ok (.ireturn, 1) := by decide +kernel
theorem dX4_matches_45 : decode cX4_matches 45 = .ok (.invokevirtual 140, 3) := dgX4_matches_2.1
theorem dX4_matches_48 : decode cX4_matches 48 = .ok (.ifCond .eq 6, 3) := dgX4_matches_2.2.1
theorem dX4_matches_51 : decode cX4_matches 51 = .ok (.iinc 1 1, 3) := dgX4_matches_2.2.2.1
theorem dX4_matches_54 : decode cX4_matches 54 = .ok (.iinc 2 1, 3) := dgX4_matches_2.2.2.2.1
theorem dX4_matches_57 : decode cX4_matches 57 = .ok (.goto (-53), 3) := dgX4_matches_2.2.2.2.2.1
theorem dX4_matches_60 : decode cX4_matches 60 = .ok (.iload_n 1, 1) := dgX4_matches_2.2.2.2.2.2.1
theorem dX4_matches_61 : decode cX4_matches 61 = .ok (.ireturn, 1) := dgX4_matches_2.2.2.2.2.2.2
abbrev pX4_matches : List Nat := [0, 4, 24, 25, 54, 60]
def bX4_matches_0 (cal : ab_F) : ab_K := o_push (.int 0) <| o_istore 1 <| o_push (.int 0) <| o_istore 2 <| o_goto 1
def bX4_matches_1 (cal : ab_F) : ab_K := o_iload 2 <| o_push (.int 1) <| o_bin (fun x y => x + y) <| o_push (.int 12) <| o_cmp (fun x y => decide (y ≤ x)) 5 <| o_iload 2 <| o_push (.int 1) <| o_bin (fun x y => x + y) <| o_push (.int 3) <| o_div (fun x y => x - x / y * y) <| o_if (fun x => decide (x = 0)) 2 <| o_push (.int 1) <| o_goto 3
def bX4_matches_2 (cal : ab_F) : ab_K := o_push (.int 0) <| o_goto 3
def bX4_matches_3 (cal : ab_F) : ab_K := o_istore 3 <| o_iload 3 <| o_if (fun x => decide (x = 0)) 4 <| o_aload 0 <| o_aload 0 <| o_getf 3 5 <| o_iload 2 <| o_iald 0 <| o_aload 0 <| o_getf 3 5 <| o_iload 2 <| o_push (.int 1) <| o_bin (fun x y => x + y) <| o_iald 0 <| o_callV cal 48 2 3 <| o_if (fun x => decide (x = 0)) 4 <| o_iinc 1 1 <| o_goto 4
def bX4_matches_4 (cal : ab_F) : ab_K := o_iinc 2 1 <| o_goto 1
def bX4_matches_5 (cal : ab_F) : ab_K := o_iload 1 <| o_ret (some .int)
def bX4_matches (cal : ab_F) : List ab_K := [bX4_matches_0 cal, bX4_matches_1 cal, bX4_matches_2 cal, bX4_matches_3 cal, bX4_matches_4 cal, bX4_matches_5 cal]
set_option maxRecDepth 100000 in
theorem sX4_matches_0 {G : ab_G} {xs : List Int32} {d : Nat} {cal : ab_F} (hcs : ab_CS G (ab_Z G xs) ab_Mf cal d) : ab_Sd G (ab_Z G xs) (d + 1) (ab_mY mX4_matches pX4_matches) 0 (bX4_matches_0 cal) :=
  sn_iconst dX4_matches_0 rfl <| sn_istore_n dX4_matches_1 rfl (by decide) <| sn_iconst dX4_matches_2 rfl <| sn_istore_n dX4_matches_3 rfl (by decide) <| sn_next rfl
set_option maxRecDepth 100000 in
theorem sX4_matches_1 {G : ab_G} {xs : List Int32} {d : Nat} {cal : ab_F} (hcs : ab_CS G (ab_Z G xs) ab_Mf cal d) : ab_Sd G (ab_Z G xs) (d + 1) (ab_mY mX4_matches pX4_matches) 4 (bX4_matches_1 cal) :=
  sn_iload_n dX4_matches_4 rfl <| sn_iconst dX4_matches_5 rfl <| sn_iadd dX4_matches_6 <| sn_bipush dX4_matches_7 rfl <| sn_cmp_ge (tg := 60) dX4_matches_9 rfl rfl <| sn_iload_n dX4_matches_12 rfl <| sn_iconst dX4_matches_13 rfl <| sn_iadd dX4_matches_14 <| sn_iconst dX4_matches_15 rfl <| sn_irem dX4_matches_16 <| sn_if_eq (tg := 24) dX4_matches_17 rfl rfl <| sn_iconst dX4_matches_20 rfl <| sn_goto (tg := 25) dX4_matches_21 rfl rfl
set_option maxRecDepth 100000 in
theorem sX4_matches_2 {G : ab_G} {xs : List Int32} {d : Nat} {cal : ab_F} (hcs : ab_CS G (ab_Z G xs) ab_Mf cal d) : ab_Sd G (ab_Z G xs) (d + 1) (ab_mY mX4_matches pX4_matches) 24 (bX4_matches_2 cal) :=
  sn_iconst dX4_matches_24 rfl <| sn_next rfl
set_option maxRecDepth 100000 in
theorem sX4_matches_3 {G : ab_G} {xs : List Int32} {d : Nat} {cal : ab_F} (hcs : ab_CS G (ab_Z G xs) ab_Mf cal d) : ab_Sd G (ab_Z G xs) (d + 1) (ab_mY mX4_matches pX4_matches) 25 (bX4_matches_3 cal) :=
  sn_istore_n dX4_matches_25 rfl (by decide) <| sn_iload_n dX4_matches_26 rfl <| sn_if_eq (tg := 54) dX4_matches_27 rfl rfl <| sn_aload_n dX4_matches_30 rfl <| sn_aload_n dX4_matches_31 rfl <| sn_getf dX4_matches_32 rfl hinX4 (by decide) w_104 <| sn_iload_n dX4_matches_35 rfl <| sn_iald dX4_matches_36 rfl <| sn_aload_n dX4_matches_37 rfl <| sn_getf dX4_matches_38 rfl hinX4 (by decide) w_104 <| sn_iload_n dX4_matches_41 rfl <| sn_iconst dX4_matches_42 rfl <| sn_iadd dX4_matches_43 <| sn_iald dX4_matches_44 rfl <| sq_callV mt_48 hcs dX4_matches_45 rfl w_518 w_519 w_520 w_56 w_521 hy_48 hm_48 <| sn_if_eq (tg := 54) dX4_matches_48 rfl rfl <| sn_iinc dX4_matches_51 rfl (by decide) <| sn_next rfl
set_option maxRecDepth 100000 in
theorem sX4_matches_4 {G : ab_G} {xs : List Int32} {d : Nat} {cal : ab_F} (hcs : ab_CS G (ab_Z G xs) ab_Mf cal d) : ab_Sd G (ab_Z G xs) (d + 1) (ab_mY mX4_matches pX4_matches) 54 (bX4_matches_4 cal) :=
  sn_iinc dX4_matches_54 rfl (by decide) <| sn_goto (tg := 4) dX4_matches_57 rfl rfl
set_option maxRecDepth 100000 in
theorem sX4_matches_5 {G : ab_G} {xs : List Int32} {d : Nat} {cal : ab_F} (hcs : ab_CS G (ab_Z G xs) ab_Mf cal d) : ab_Sd G (ab_Z G xs) (d + 1) (ab_mY mX4_matches pX4_matches) 60 (bX4_matches_5 cal) :=
  sn_iload_n dX4_matches_60 rfl <| sn_ret dX4_matches_61 ab_ri_int
theorem sX4_matches {G : ab_G} {xs : List Int32} {d : Nat} {cal : ab_F} (hcs : ab_CS G (ab_Z G xs) ab_Mf cal d) : ab_BS G (ab_Z G xs) (d + 1) (ab_mY mX4_matches pX4_matches) pX4_matches (bX4_matches cal) := ⟨sX4_matches_0 hcs, sX4_matches_1 hcs, sX4_matches_2 hcs, sX4_matches_3 hcs, sX4_matches_4 hcs, sX4_matches_5 hcs, trivial⟩
theorem dgX4_meet_0 : decode cX4_meet 0 = .ok (.iload_n 1, 1) ∧ decode cX4_meet 1 = .ok (.iconst (-1), 1) ∧ decode cX4_meet 2 = .ok (.if_icmp .eq 27, 3) ∧ decode cX4_meet 5 = .ok (.iload_n 2, 1) ∧ decode cX4_meet 6 = .ok (.iconst (-1), 1) ∧ decode cX4_meet 7 = .ok (.if_icmp .eq 22, 3) ∧ decode cX4_meet 10 = .ok (.aload_n 0, 1) ∧ decode cX4_meet 11 = .ok (.iload_n 1, 1) ∧ decode cX4_meet 12 = .ok (.iconst 1, 1) ∧ decode cX4_meet 13 = .ok (.invokevirtual 144, 3) ∧ decode cX4_meet 16 = .ok (.aload_n 0, 1) ∧ decode cX4_meet 17 = .ok (.iload_n 2, 1) ∧ decode cX4_meet 18 = .ok (.iconst 0, 1) ∧ decode cX4_meet 19 = .ok (.invokevirtual 144, 3) ∧ decode cX4_meet 22 = .ok (.if_icmp .ne 7, 3) ∧ decode cX4_meet 25 = .ok (.iconst 1, 1) := by decide +kernel
theorem dX4_meet_0 : decode cX4_meet 0 = .ok (.iload_n 1, 1) := dgX4_meet_0.1
theorem dX4_meet_1 : decode cX4_meet 1 = .ok (.iconst (-1), 1) := dgX4_meet_0.2.1
theorem dX4_meet_2 : decode cX4_meet 2 = .ok (.if_icmp .eq 27, 3) := dgX4_meet_0.2.2.1
theorem dX4_meet_5 : decode cX4_meet 5 = .ok (.iload_n 2, 1) := dgX4_meet_0.2.2.2.1
theorem dX4_meet_6 : decode cX4_meet 6 = .ok (.iconst (-1), 1) := dgX4_meet_0.2.2.2.2.1
theorem dX4_meet_7 : decode cX4_meet 7 = .ok (.if_icmp .eq 22, 3) := dgX4_meet_0.2.2.2.2.2.1
theorem dX4_meet_10 : decode cX4_meet 10 = .ok (.aload_n 0, 1) := dgX4_meet_0.2.2.2.2.2.2.1
theorem dX4_meet_11 : decode cX4_meet 11 = .ok (.iload_n 1, 1) := dgX4_meet_0.2.2.2.2.2.2.2.1
theorem dX4_meet_12 : decode cX4_meet 12 = .ok (.iconst 1, 1) := dgX4_meet_0.2.2.2.2.2.2.2.2.1
theorem dX4_meet_13 : decode cX4_meet 13 = .ok (.invokevirtual 144, 3) := dgX4_meet_0.2.2.2.2.2.2.2.2.2.1
theorem dX4_meet_16 : decode cX4_meet 16 = .ok (.aload_n 0, 1) := dgX4_meet_0.2.2.2.2.2.2.2.2.2.2.1
theorem dX4_meet_17 : decode cX4_meet 17 = .ok (.iload_n 2, 1) := dgX4_meet_0.2.2.2.2.2.2.2.2.2.2.2.1
theorem dX4_meet_18 : decode cX4_meet 18 = .ok (.iconst 0, 1) := dgX4_meet_0.2.2.2.2.2.2.2.2.2.2.2.2.1
theorem dX4_meet_19 : decode cX4_meet 19 = .ok (.invokevirtual 144, 3) := dgX4_meet_0.2.2.2.2.2.2.2.2.2.2.2.2.2.1
theorem dX4_meet_22 : decode cX4_meet 22 = .ok (.if_icmp .ne 7, 3) := dgX4_meet_0.2.2.2.2.2.2.2.2.2.2.2.2.2.2.1
theorem dX4_meet_25 : decode cX4_meet 25 = .ok (.iconst 1, 1) := dgX4_meet_0.2.2.2.2.2.2.2.2.2.2.2.2.2.2.2
theorem dgX4_meet_1 : decode cX4_meet 26 = .ok (.goto 4, 3) ∧ decode cX4_meet 29 = .ok (.iconst 0, 1) ∧ decode cX4_meet 30 = .ok (.ireturn, 1) := by decide +kernel
theorem dX4_meet_26 : decode cX4_meet 26 = .ok (.goto 4, 3) := dgX4_meet_1.1
theorem dX4_meet_29 : decode cX4_meet 29 = .ok (.iconst 0, 1) := dgX4_meet_1.2.1
theorem dX4_meet_30 : decode cX4_meet 30 = .ok (.ireturn, 1) := dgX4_meet_1.2.2
abbrev pX4_meet : List Nat := [0, 29, 30]
def bX4_meet_0 (cal : ab_F) : ab_K := o_iload 1 <| o_push (.int (-1)) <| o_cmp (fun x y => decide (x = y)) 1 <| o_iload 2 <| o_push (.int (-1)) <| o_cmp (fun x y => decide (x = y)) 1 <| o_aload 0 <| o_iload 1 <| o_push (.int 1) <| o_callV cal 41 2 3 <| o_aload 0 <| o_iload 2 <| o_push (.int 0) <| o_callV cal 41 2 3 <| o_cmp (fun x y => decide (¬ x = y)) 1 <| o_push (.int 1) <| o_goto 2
def bX4_meet_1 (cal : ab_F) : ab_K := o_push (.int 0) <| o_goto 2
def bX4_meet_2 (cal : ab_F) : ab_K := o_ret (some .boolean)
def bX4_meet (cal : ab_F) : List ab_K := [bX4_meet_0 cal, bX4_meet_1 cal, bX4_meet_2 cal]
set_option maxRecDepth 100000 in
theorem sX4_meet_0 {G : ab_G} {xs : List Int32} {d : Nat} {cal : ab_F} (hcs : ab_CS G (ab_Z G xs) ab_Mf cal d) : ab_Sd G (ab_Z G xs) (d + 1) (ab_mY mX4_meet pX4_meet) 0 (bX4_meet_0 cal) :=
  sn_iload_n dX4_meet_0 rfl <| sn_iconst dX4_meet_1 rfl <| sn_cmp_eq (tg := 29) dX4_meet_2 rfl rfl <| sn_iload_n dX4_meet_5 rfl <| sn_iconst dX4_meet_6 rfl <| sn_cmp_eq (tg := 29) dX4_meet_7 rfl rfl <| sn_aload_n dX4_meet_10 rfl <| sn_iload_n dX4_meet_11 rfl <| sn_iconst dX4_meet_12 rfl <| sq_callV mt_41 hcs dX4_meet_13 rfl w_522 w_523 w_524 w_56 w_525 hy_41 hm_41 <| sn_aload_n dX4_meet_16 rfl <| sn_iload_n dX4_meet_17 rfl <| sn_iconst dX4_meet_18 rfl <| sq_callV mt_41 hcs dX4_meet_19 rfl w_522 w_523 w_524 w_56 w_525 hy_41 hm_41 <| sn_cmp_ne (tg := 29) dX4_meet_22 rfl rfl <| sn_iconst dX4_meet_25 rfl <| sn_goto (tg := 30) dX4_meet_26 rfl rfl
set_option maxRecDepth 100000 in
theorem sX4_meet_1 {G : ab_G} {xs : List Int32} {d : Nat} {cal : ab_F} (hcs : ab_CS G (ab_Z G xs) ab_Mf cal d) : ab_Sd G (ab_Z G xs) (d + 1) (ab_mY mX4_meet pX4_meet) 29 (bX4_meet_1 cal) :=
  sn_iconst dX4_meet_29 rfl <| sn_next rfl
set_option maxRecDepth 100000 in
theorem sX4_meet_2 {G : ab_G} {xs : List Int32} {d : Nat} {cal : ab_F} (hcs : ab_CS G (ab_Z G xs) ab_Mf cal d) : ab_Sd G (ab_Z G xs) (d + 1) (ab_mY mX4_meet pX4_meet) 30 (bX4_meet_2 cal) :=
  sn_ret dX4_meet_30 ab_ri_bool
theorem sX4_meet {G : ab_G} {xs : List Int32} {d : Nat} {cal : ab_F} (hcs : ab_CS G (ab_Z G xs) ab_Mf cal d) : ab_BS G (ab_Z G xs) (d + 1) (ab_mY mX4_meet pX4_meet) pX4_meet (bX4_meet cal) := ⟨sX4_meet_0 hcs, sX4_meet_1 hcs, sX4_meet_2 hcs, trivial⟩
theorem dgX4_laidStones_0 : decode cX4_laidStones 0 = .ok (.aload_n 0, 1) ∧ decode cX4_laidStones 1 = .ok (.invokevirtual 147, 3) ∧ decode cX4_laidStones 4 = .ok (.invokestatic 150, 3) ∧ decode cX4_laidStones 7 = .ok (.ireturn, 1) := by decide +kernel
theorem dX4_laidStones_0 : decode cX4_laidStones 0 = .ok (.aload_n 0, 1) := dgX4_laidStones_0.1
theorem dX4_laidStones_1 : decode cX4_laidStones 1 = .ok (.invokevirtual 147, 3) := dgX4_laidStones_0.2.1
theorem dX4_laidStones_4 : decode cX4_laidStones 4 = .ok (.invokestatic 150, 3) := dgX4_laidStones_0.2.2.1
theorem dX4_laidStones_7 : decode cX4_laidStones 7 = .ok (.ireturn, 1) := dgX4_laidStones_0.2.2.2
abbrev pX4_laidStones : List Nat := [0]
def bX4_laidStones_0 (cal : ab_F) : ab_K := o_aload 0 <| o_callV cal 50 0 3 <| o_callS cal 225 1 <| o_ret (some .int)
def bX4_laidStones (cal : ab_F) : List ab_K := [bX4_laidStones_0 cal]
set_option maxRecDepth 100000 in
theorem sX4_laidStones_0 {G : ab_G} {xs : List Int32} {d : Nat} {cal : ab_F} (hcs : ab_CS G (ab_Z G xs) ab_Mf cal d) : ab_Sd G (ab_Z G xs) (d + 1) (ab_mY mX4_laidStones pX4_laidStones) 0 (bX4_laidStones_0 cal) :=
  sn_aload_n dX4_laidStones_0 rfl <| sq_callV mt_50 hcs dX4_laidStones_1 rfl w_474 w_475 w_476 w_56 w_477 hy_50 hm_50 <| sq_callS mt_225 hcs dX4_laidStones_4 w_478 w_479 w_67 w_480 hy_225 hm_225 <| sn_ret dX4_laidStones_7 ab_ri_int
theorem sX4_laidStones {G : ab_G} {xs : List Int32} {d : Nat} {cal : ab_F} (hcs : ab_CS G (ab_Z G xs) ab_Mf cal d) : ab_BS G (ab_Z G xs) (d + 1) (ab_mY mX4_laidStones pX4_laidStones) pX4_laidStones (bX4_laidStones cal) := ⟨sX4_laidStones_0 hcs, trivial⟩
theorem dgX4_placesHeld_0 : decode cX4_placesHeld 0 = .ok (.iconst 0, 1) ∧ decode cX4_placesHeld 1 = .ok (.istore_n 1, 1) ∧ decode cX4_placesHeld 2 = .ok (.iconst 0, 1) ∧ decode cX4_placesHeld 3 = .ok (.istore_n 2, 1) ∧ decode cX4_placesHeld 4 = .ok (.iload_n 2, 1) ∧ decode cX4_placesHeld 5 = .ok (.bipush 12, 2) ∧ decode cX4_placesHeld 7 = .ok (.if_icmp .ge 25, 3) ∧ decode cX4_placesHeld 10 = .ok (.aload_n 0, 1) ∧ decode cX4_placesHeld 11 = .ok (.getfield 27, 3) ∧ decode cX4_placesHeld 14 = .ok (.iload_n 2, 1) ∧ decode cX4_placesHeld 15 = .ok (.iaload, 1) ∧ decode cX4_placesHeld 16 = .ok (.iconst (-1), 1) ∧ decode cX4_placesHeld 17 = .ok (.if_icmp .eq 9, 3) ∧ decode cX4_placesHeld 20 = .ok (.iload_n 1, 1) ∧ decode cX4_placesHeld 21 = .ok (.iconst 1, 1) ∧ decode cX4_placesHeld 22 = .ok (.iload_n 2, 1) := by decide +kernel
theorem dX4_placesHeld_0 : decode cX4_placesHeld 0 = .ok (.iconst 0, 1) := dgX4_placesHeld_0.1
theorem dX4_placesHeld_1 : decode cX4_placesHeld 1 = .ok (.istore_n 1, 1) := dgX4_placesHeld_0.2.1
theorem dX4_placesHeld_2 : decode cX4_placesHeld 2 = .ok (.iconst 0, 1) := dgX4_placesHeld_0.2.2.1
theorem dX4_placesHeld_3 : decode cX4_placesHeld 3 = .ok (.istore_n 2, 1) := dgX4_placesHeld_0.2.2.2.1
theorem dX4_placesHeld_4 : decode cX4_placesHeld 4 = .ok (.iload_n 2, 1) := dgX4_placesHeld_0.2.2.2.2.1
theorem dX4_placesHeld_5 : decode cX4_placesHeld 5 = .ok (.bipush 12, 2) := dgX4_placesHeld_0.2.2.2.2.2.1
theorem dX4_placesHeld_7 : decode cX4_placesHeld 7 = .ok (.if_icmp .ge 25, 3) := dgX4_placesHeld_0.2.2.2.2.2.2.1
theorem dX4_placesHeld_10 : decode cX4_placesHeld 10 = .ok (.aload_n 0, 1) := dgX4_placesHeld_0.2.2.2.2.2.2.2.1
theorem dX4_placesHeld_11 : decode cX4_placesHeld 11 = .ok (.getfield 27, 3) := dgX4_placesHeld_0.2.2.2.2.2.2.2.2.1
theorem dX4_placesHeld_14 : decode cX4_placesHeld 14 = .ok (.iload_n 2, 1) := dgX4_placesHeld_0.2.2.2.2.2.2.2.2.2.1
theorem dX4_placesHeld_15 : decode cX4_placesHeld 15 = .ok (.iaload, 1) := dgX4_placesHeld_0.2.2.2.2.2.2.2.2.2.2.1
theorem dX4_placesHeld_16 : decode cX4_placesHeld 16 = .ok (.iconst (-1), 1) := dgX4_placesHeld_0.2.2.2.2.2.2.2.2.2.2.2.1
theorem dX4_placesHeld_17 : decode cX4_placesHeld 17 = .ok (.if_icmp .eq 9, 3) := dgX4_placesHeld_0.2.2.2.2.2.2.2.2.2.2.2.2.1
theorem dX4_placesHeld_20 : decode cX4_placesHeld 20 = .ok (.iload_n 1, 1) := dgX4_placesHeld_0.2.2.2.2.2.2.2.2.2.2.2.2.2.1
theorem dX4_placesHeld_21 : decode cX4_placesHeld 21 = .ok (.iconst 1, 1) := dgX4_placesHeld_0.2.2.2.2.2.2.2.2.2.2.2.2.2.2.1
theorem dX4_placesHeld_22 : decode cX4_placesHeld 22 = .ok (.iload_n 2, 1) := dgX4_placesHeld_0.2.2.2.2.2.2.2.2.2.2.2.2.2.2.2
theorem dgX4_placesHeld_1 : decode cX4_placesHeld 23 = .ok (.ishl, 1) ∧ decode cX4_placesHeld 24 = .ok (.ior, 1) ∧ decode cX4_placesHeld 25 = .ok (.istore_n 1, 1) ∧ decode cX4_placesHeld 26 = .ok (.iinc 2 1, 3) ∧ decode cX4_placesHeld 29 = .ok (.goto (-25), 3) ∧ decode cX4_placesHeld 32 = .ok (.iload_n 1, 1) ∧ decode cX4_placesHeld 33 = .ok (.ireturn, 1) := by decide +kernel
theorem dX4_placesHeld_23 : decode cX4_placesHeld 23 = .ok (.ishl, 1) := dgX4_placesHeld_1.1
theorem dX4_placesHeld_24 : decode cX4_placesHeld 24 = .ok (.ior, 1) := dgX4_placesHeld_1.2.1
theorem dX4_placesHeld_25 : decode cX4_placesHeld 25 = .ok (.istore_n 1, 1) := dgX4_placesHeld_1.2.2.1
theorem dX4_placesHeld_26 : decode cX4_placesHeld 26 = .ok (.iinc 2 1, 3) := dgX4_placesHeld_1.2.2.2.1
theorem dX4_placesHeld_29 : decode cX4_placesHeld 29 = .ok (.goto (-25), 3) := dgX4_placesHeld_1.2.2.2.2.1
theorem dX4_placesHeld_32 : decode cX4_placesHeld 32 = .ok (.iload_n 1, 1) := dgX4_placesHeld_1.2.2.2.2.2.1
theorem dX4_placesHeld_33 : decode cX4_placesHeld 33 = .ok (.ireturn, 1) := dgX4_placesHeld_1.2.2.2.2.2.2
abbrev pX4_placesHeld : List Nat := [0, 4, 26, 32]
def bX4_placesHeld_0 (cal : ab_F) : ab_K := o_push (.int 0) <| o_istore 1 <| o_push (.int 0) <| o_istore 2 <| o_goto 1
def bX4_placesHeld_1 (cal : ab_F) : ab_K := o_iload 2 <| o_push (.int 12) <| o_cmp (fun x y => decide (y ≤ x)) 3 <| o_aload 0 <| o_getf 3 5 <| o_iload 2 <| o_iald 0 <| o_push (.int (-1)) <| o_cmp (fun x y => decide (x = y)) 2 <| o_iload 1 <| o_push (.int 1) <| o_iload 2 <| o_bin (fun x y => x <<< (y &&& 31)) <| o_bin (fun x y => x ||| y) <| o_istore 1 <| o_goto 2
def bX4_placesHeld_2 (cal : ab_F) : ab_K := o_iinc 2 1 <| o_goto 1
def bX4_placesHeld_3 (cal : ab_F) : ab_K := o_iload 1 <| o_ret (some .int)
def bX4_placesHeld (cal : ab_F) : List ab_K := [bX4_placesHeld_0 cal, bX4_placesHeld_1 cal, bX4_placesHeld_2 cal, bX4_placesHeld_3 cal]
set_option maxRecDepth 100000 in
theorem sX4_placesHeld_0 {G : ab_G} {xs : List Int32} {d : Nat} {cal : ab_F} (hcs : ab_CS G (ab_Z G xs) ab_Mf cal d) : ab_Sd G (ab_Z G xs) (d + 1) (ab_mY mX4_placesHeld pX4_placesHeld) 0 (bX4_placesHeld_0 cal) :=
  sn_iconst dX4_placesHeld_0 rfl <| sn_istore_n dX4_placesHeld_1 rfl (by decide) <| sn_iconst dX4_placesHeld_2 rfl <| sn_istore_n dX4_placesHeld_3 rfl (by decide) <| sn_next rfl
set_option maxRecDepth 100000 in
theorem sX4_placesHeld_1 {G : ab_G} {xs : List Int32} {d : Nat} {cal : ab_F} (hcs : ab_CS G (ab_Z G xs) ab_Mf cal d) : ab_Sd G (ab_Z G xs) (d + 1) (ab_mY mX4_placesHeld pX4_placesHeld) 4 (bX4_placesHeld_1 cal) :=
  sn_iload_n dX4_placesHeld_4 rfl <| sn_bipush dX4_placesHeld_5 rfl <| sn_cmp_ge (tg := 32) dX4_placesHeld_7 rfl rfl <| sn_aload_n dX4_placesHeld_10 rfl <| sn_getf dX4_placesHeld_11 rfl hinX4 (by decide) w_104 <| sn_iload_n dX4_placesHeld_14 rfl <| sn_iald dX4_placesHeld_15 rfl <| sn_iconst dX4_placesHeld_16 rfl <| sn_cmp_eq (tg := 26) dX4_placesHeld_17 rfl rfl <| sn_iload_n dX4_placesHeld_20 rfl <| sn_iconst dX4_placesHeld_21 rfl <| sn_iload_n dX4_placesHeld_22 rfl <| sn_ishl dX4_placesHeld_23 <| sn_ior dX4_placesHeld_24 <| sn_istore_n dX4_placesHeld_25 rfl (by decide) <| sn_next rfl
set_option maxRecDepth 100000 in
theorem sX4_placesHeld_2 {G : ab_G} {xs : List Int32} {d : Nat} {cal : ab_F} (hcs : ab_CS G (ab_Z G xs) ab_Mf cal d) : ab_Sd G (ab_Z G xs) (d + 1) (ab_mY mX4_placesHeld pX4_placesHeld) 26 (bX4_placesHeld_2 cal) :=
  sn_iinc dX4_placesHeld_26 rfl (by decide) <| sn_goto (tg := 4) dX4_placesHeld_29 rfl rfl
set_option maxRecDepth 100000 in
theorem sX4_placesHeld_3 {G : ab_G} {xs : List Int32} {d : Nat} {cal : ab_F} (hcs : ab_CS G (ab_Z G xs) ab_Mf cal d) : ab_Sd G (ab_Z G xs) (d + 1) (ab_mY mX4_placesHeld pX4_placesHeld) 32 (bX4_placesHeld_3 cal) :=
  sn_iload_n dX4_placesHeld_32 rfl <| sn_ret dX4_placesHeld_33 ab_ri_int
theorem sX4_placesHeld {G : ab_G} {xs : List Int32} {d : Nat} {cal : ab_F} (hcs : ab_CS G (ab_Z G xs) ab_Mf cal d) : ab_BS G (ab_Z G xs) (d + 1) (ab_mY mX4_placesHeld pX4_placesHeld) pX4_placesHeld (bX4_placesHeld cal) := ⟨sX4_placesHeld_0 hcs, sX4_placesHeld_1 hcs, sX4_placesHeld_2 hcs, sX4_placesHeld_3 hcs, trivial⟩
theorem dgX4_passDays_0 : decode cX4_passDays 0 = .ok (.iconst 0, 1) ∧ decode cX4_passDays 1 = .ok (.istore_n 2, 1) ∧ decode cX4_passDays 2 = .ok (.iload_n 2, 1) ∧ decode cX4_passDays 3 = .ok (.iload_n 1, 1) ∧ decode cX4_passDays 4 = .ok (.if_icmp .ge 13, 3) ∧ decode cX4_passDays 7 = .ok (.aload_n 0, 1) ∧ decode cX4_passDays 8 = .ok (.invokevirtual 155, 3) ∧ decode cX4_passDays 11 = .ok (.iinc 2 1, 3) ∧ decode cX4_passDays 14 = .ok (.goto (-12), 3) ∧ decode cX4_passDays 17 = .ok (.return_, 1) := by decide +kernel
theorem dX4_passDays_0 : decode cX4_passDays 0 = .ok (.iconst 0, 1) := dgX4_passDays_0.1
theorem dX4_passDays_1 : decode cX4_passDays 1 = .ok (.istore_n 2, 1) := dgX4_passDays_0.2.1
theorem dX4_passDays_2 : decode cX4_passDays 2 = .ok (.iload_n 2, 1) := dgX4_passDays_0.2.2.1
theorem dX4_passDays_3 : decode cX4_passDays 3 = .ok (.iload_n 1, 1) := dgX4_passDays_0.2.2.2.1
theorem dX4_passDays_4 : decode cX4_passDays 4 = .ok (.if_icmp .ge 13, 3) := dgX4_passDays_0.2.2.2.2.1
theorem dX4_passDays_7 : decode cX4_passDays 7 = .ok (.aload_n 0, 1) := dgX4_passDays_0.2.2.2.2.2.1
theorem dX4_passDays_8 : decode cX4_passDays 8 = .ok (.invokevirtual 155, 3) := dgX4_passDays_0.2.2.2.2.2.2.1
theorem dX4_passDays_11 : decode cX4_passDays 11 = .ok (.iinc 2 1, 3) := dgX4_passDays_0.2.2.2.2.2.2.2.1
theorem dX4_passDays_14 : decode cX4_passDays 14 = .ok (.goto (-12), 3) := dgX4_passDays_0.2.2.2.2.2.2.2.2.1
theorem dX4_passDays_17 : decode cX4_passDays 17 = .ok (.return_, 1) := dgX4_passDays_0.2.2.2.2.2.2.2.2.2
abbrev pX4_passDays : List Nat := [0, 2, 17]
def bX4_passDays_0 (cal : ab_F) : ab_K := o_push (.int 0) <| o_istore 2 <| o_goto 1
def bX4_passDays_1 (cal : ab_F) : ab_K := o_iload 2 <| o_iload 1 <| o_cmp (fun x y => decide (y ≤ x)) 2 <| o_aload 0 <| o_callV cal 52 0 3 <| o_iinc 2 1 <| o_goto 1
def bX4_passDays_2 (cal : ab_F) : ab_K := o_ret none
def bX4_passDays (cal : ab_F) : List ab_K := [bX4_passDays_0 cal, bX4_passDays_1 cal, bX4_passDays_2 cal]
set_option maxRecDepth 100000 in
theorem sX4_passDays_0 {G : ab_G} {xs : List Int32} {d : Nat} {cal : ab_F} (hcs : ab_CS G (ab_Z G xs) ab_Mf cal d) : ab_Sd G (ab_Z G xs) (d + 1) (ab_mY mX4_passDays pX4_passDays) 0 (bX4_passDays_0 cal) :=
  sn_iconst dX4_passDays_0 rfl <| sn_istore_n dX4_passDays_1 rfl (by decide) <| sn_next rfl
set_option maxRecDepth 100000 in
theorem sX4_passDays_1 {G : ab_G} {xs : List Int32} {d : Nat} {cal : ab_F} (hcs : ab_CS G (ab_Z G xs) ab_Mf cal d) : ab_Sd G (ab_Z G xs) (d + 1) (ab_mY mX4_passDays pX4_passDays) 2 (bX4_passDays_1 cal) :=
  sn_iload_n dX4_passDays_2 rfl <| sn_iload_n dX4_passDays_3 rfl <| sn_cmp_ge (tg := 17) dX4_passDays_4 rfl rfl <| sn_aload_n dX4_passDays_7 rfl <| sq_callV mt_52 hcs dX4_passDays_8 rfl w_488 w_489 w_490 w_56 w_491 hy_52 hm_52 <| sn_iinc dX4_passDays_11 rfl (by decide) <| sn_goto (tg := 2) dX4_passDays_14 rfl rfl
set_option maxRecDepth 100000 in
theorem sX4_passDays_2 {G : ab_G} {xs : List Int32} {d : Nat} {cal : ab_F} (hcs : ab_CS G (ab_Z G xs) ab_Mf cal d) : ab_Sd G (ab_Z G xs) (d + 1) (ab_mY mX4_passDays pX4_passDays) 17 (bX4_passDays_2 cal) :=
  sn_ret dX4_passDays_17 ab_ri_void
theorem sX4_passDays {G : ab_G} {xs : List Int32} {d : Nat} {cal : ab_F} (hcs : ab_CS G (ab_Z G xs) ab_Mf cal d) : ab_BS G (ab_Z G xs) (d + 1) (ab_mY mX4_passDays pX4_passDays) pX4_passDays (bX4_passDays cal) := ⟨sX4_passDays_0 hcs, sX4_passDays_1 hcs, sX4_passDays_2 hcs, trivial⟩
theorem dgX4_passDay_0 : decode cX4_passDay 0 = .ok (.aload_n 0, 1) ∧ decode cX4_passDay 1 = .ok (.aload_n 0, 1) ∧ decode cX4_passDay 2 = .ok (.invokevirtual 77, 3) ∧ decode cX4_passDay 5 = .ok (.iconst 4, 1) ∧ decode cX4_passDay 6 = .ok (.irem, 1) ∧ decode cX4_passDay 7 = .ok (.invokevirtual 158, 3) ∧ decode cX4_passDay 10 = .ok (.istore_n 1, 1) ∧ decode cX4_passDay 11 = .ok (.iload_n 1, 1) ∧ decode cX4_passDay 12 = .ok (.iconst (-1), 1) ∧ decode cX4_passDay 13 = .ok (.if_icmp .eq 8, 3) ∧ decode cX4_passDay 16 = .ok (.aload_n 0, 1) ∧ decode cX4_passDay 17 = .ok (.iload_n 1, 1) ∧ decode cX4_passDay 18 = .ok (.invokevirtual 161, 3) ∧ decode cX4_passDay 21 = .ok (.aload_n 0, 1) ∧ decode cX4_passDay 22 = .ok (.invokevirtual 77, 3) ∧ decode cX4_passDay 25 = .ok (.bipush 100, 2) := by decide +kernel
theorem dX4_passDay_0 : decode cX4_passDay 0 = .ok (.aload_n 0, 1) := dgX4_passDay_0.1
theorem dX4_passDay_1 : decode cX4_passDay 1 = .ok (.aload_n 0, 1) := dgX4_passDay_0.2.1
theorem dX4_passDay_2 : decode cX4_passDay 2 = .ok (.invokevirtual 77, 3) := dgX4_passDay_0.2.2.1
theorem dX4_passDay_5 : decode cX4_passDay 5 = .ok (.iconst 4, 1) := dgX4_passDay_0.2.2.2.1
theorem dX4_passDay_6 : decode cX4_passDay 6 = .ok (.irem, 1) := dgX4_passDay_0.2.2.2.2.1
theorem dX4_passDay_7 : decode cX4_passDay 7 = .ok (.invokevirtual 158, 3) := dgX4_passDay_0.2.2.2.2.2.1
theorem dX4_passDay_10 : decode cX4_passDay 10 = .ok (.istore_n 1, 1) := dgX4_passDay_0.2.2.2.2.2.2.1
theorem dX4_passDay_11 : decode cX4_passDay 11 = .ok (.iload_n 1, 1) := dgX4_passDay_0.2.2.2.2.2.2.2.1
theorem dX4_passDay_12 : decode cX4_passDay 12 = .ok (.iconst (-1), 1) := dgX4_passDay_0.2.2.2.2.2.2.2.2.1
theorem dX4_passDay_13 : decode cX4_passDay 13 = .ok (.if_icmp .eq 8, 3) := dgX4_passDay_0.2.2.2.2.2.2.2.2.2.1
theorem dX4_passDay_16 : decode cX4_passDay 16 = .ok (.aload_n 0, 1) := dgX4_passDay_0.2.2.2.2.2.2.2.2.2.2.1
theorem dX4_passDay_17 : decode cX4_passDay 17 = .ok (.iload_n 1, 1) := dgX4_passDay_0.2.2.2.2.2.2.2.2.2.2.2.1
theorem dX4_passDay_18 : decode cX4_passDay 18 = .ok (.invokevirtual 161, 3) := dgX4_passDay_0.2.2.2.2.2.2.2.2.2.2.2.2.1
theorem dX4_passDay_21 : decode cX4_passDay 21 = .ok (.aload_n 0, 1) := dgX4_passDay_0.2.2.2.2.2.2.2.2.2.2.2.2.2.1
theorem dX4_passDay_22 : decode cX4_passDay 22 = .ok (.invokevirtual 77, 3) := dgX4_passDay_0.2.2.2.2.2.2.2.2.2.2.2.2.2.2.1
theorem dX4_passDay_25 : decode cX4_passDay 25 = .ok (.bipush 100, 2) := dgX4_passDay_0.2.2.2.2.2.2.2.2.2.2.2.2.2.2.2
theorem dgX4_passDay_1 : decode cX4_passDay 27 = .ok (.irem, 1) ∧ decode cX4_passDay 28 = .ok (.aload_n 0, 1) ∧ decode cX4_passDay 29 = .ok (.getfield 67, 3) ∧ decode cX4_passDay 32 = .ok (.if_icmp .ge 14, 3) ∧ decode cX4_passDay 35 = .ok (.aload_n 0, 1) ∧ decode cX4_passDay 36 = .ok (.aload_n 0, 1) ∧ decode cX4_passDay 37 = .ok (.invokevirtual 77, 3) ∧ decode cX4_passDay 40 = .ok (.bipush 12, 2) ∧ decode cX4_passDay 42 = .ok (.irem, 1) ∧ decode cX4_passDay 43 = .ok (.invokevirtual 164, 3) ∧ decode cX4_passDay 46 = .ok (.aload_n 0, 1) ∧ decode cX4_passDay 47 = .ok (.dup, 1) ∧ decode cX4_passDay 48 = .ok (.getfield 70, 3) ∧ decode cX4_passDay 51 = .ok (.iconst 1, 1) ∧ decode cX4_passDay 52 = .ok (.iadd, 1) ∧ decode cX4_passDay 53 = .ok (.putfield 70, 3) := by decide +kernel
theorem dX4_passDay_27 : decode cX4_passDay 27 = .ok (.irem, 1) := dgX4_passDay_1.1
theorem dX4_passDay_28 : decode cX4_passDay 28 = .ok (.aload_n 0, 1) := dgX4_passDay_1.2.1
theorem dX4_passDay_29 : decode cX4_passDay 29 = .ok (.getfield 67, 3) := dgX4_passDay_1.2.2.1
theorem dX4_passDay_32 : decode cX4_passDay 32 = .ok (.if_icmp .ge 14, 3) := dgX4_passDay_1.2.2.2.1
theorem dX4_passDay_35 : decode cX4_passDay 35 = .ok (.aload_n 0, 1) := dgX4_passDay_1.2.2.2.2.1
theorem dX4_passDay_36 : decode cX4_passDay 36 = .ok (.aload_n 0, 1) := dgX4_passDay_1.2.2.2.2.2.1
theorem dX4_passDay_37 : decode cX4_passDay 37 = .ok (.invokevirtual 77, 3) := dgX4_passDay_1.2.2.2.2.2.2.1
theorem dX4_passDay_40 : decode cX4_passDay 40 = .ok (.bipush 12, 2) := dgX4_passDay_1.2.2.2.2.2.2.2.1
theorem dX4_passDay_42 : decode cX4_passDay 42 = .ok (.irem, 1) := dgX4_passDay_1.2.2.2.2.2.2.2.2.1
theorem dX4_passDay_43 : decode cX4_passDay 43 = .ok (.invokevirtual 164, 3) := dgX4_passDay_1.2.2.2.2.2.2.2.2.2.1
theorem dX4_passDay_46 : decode cX4_passDay 46 = .ok (.aload_n 0, 1) := dgX4_passDay_1.2.2.2.2.2.2.2.2.2.2.1
theorem dX4_passDay_47 : decode cX4_passDay 47 = .ok (.dup, 1) := dgX4_passDay_1.2.2.2.2.2.2.2.2.2.2.2.1
theorem dX4_passDay_48 : decode cX4_passDay 48 = .ok (.getfield 70, 3) := dgX4_passDay_1.2.2.2.2.2.2.2.2.2.2.2.2.1
theorem dX4_passDay_51 : decode cX4_passDay 51 = .ok (.iconst 1, 1) := dgX4_passDay_1.2.2.2.2.2.2.2.2.2.2.2.2.2.1
theorem dX4_passDay_52 : decode cX4_passDay 52 = .ok (.iadd, 1) := dgX4_passDay_1.2.2.2.2.2.2.2.2.2.2.2.2.2.2.1
theorem dX4_passDay_53 : decode cX4_passDay 53 = .ok (.putfield 70, 3) := dgX4_passDay_1.2.2.2.2.2.2.2.2.2.2.2.2.2.2.2
theorem dX4_passDay_56 : decode cX4_passDay 56 = .ok (.return_, 1) := by decide +kernel
abbrev pX4_passDay : List Nat := [0, 21, 46]
def bX4_passDay_0 (cal : ab_F) : ab_K := o_aload 0 <| o_aload 0 <| o_callV cal 33 0 3 <| o_push (.int 4) <| o_div (fun x y => x - x / y * y) <| o_callV cal 53 1 3 <| o_istore 1 <| o_iload 1 <| o_push (.int (-1)) <| o_cmp (fun x y => decide (x = y)) 1 <| o_aload 0 <| o_iload 1 <| o_callV cal 54 1 3 <| o_goto 1
def bX4_passDay_1 (cal : ab_F) : ab_K := o_aload 0 <| o_callV cal 33 0 3 <| o_push (.int 100) <| o_div (fun x y => x - x / y * y) <| o_aload 0 <| o_getf 3 12 <| o_cmp (fun x y => decide (y ≤ x)) 2 <| o_aload 0 <| o_aload 0 <| o_callV cal 33 0 3 <| o_push (.int 12) <| o_div (fun x y => x - x / y * y) <| o_callV cal 55 1 3 <| o_goto 2
def bX4_passDay_2 (cal : ab_F) : ab_K := o_aload 0 <| o_dup <| o_getf 3 13 <| o_push (.int 1) <| o_bin (fun x y => x + y) <| o_putI 3 13 <| o_ret none
def bX4_passDay (cal : ab_F) : List ab_K := [bX4_passDay_0 cal, bX4_passDay_1 cal, bX4_passDay_2 cal]
set_option maxRecDepth 100000 in
theorem sX4_passDay_0 {G : ab_G} {xs : List Int32} {d : Nat} {cal : ab_F} (hcs : ab_CS G (ab_Z G xs) ab_Mf cal d) : ab_Sd G (ab_Z G xs) (d + 1) (ab_mY mX4_passDay pX4_passDay) 0 (bX4_passDay_0 cal) :=
  sn_aload_n dX4_passDay_0 rfl <| sn_aload_n dX4_passDay_1 rfl <| sq_callV mt_33 hcs dX4_passDay_2 rfl w_456 w_457 w_458 w_56 w_459 hy_33 hm_33 <| sn_iconst dX4_passDay_5 rfl <| sn_irem dX4_passDay_6 <| sq_callV mt_53 hcs dX4_passDay_7 rfl w_492 w_493 w_494 w_56 w_495 hy_53 hm_53 <| sn_istore_n dX4_passDay_10 rfl (by decide) <| sn_iload_n dX4_passDay_11 rfl <| sn_iconst dX4_passDay_12 rfl <| sn_cmp_eq (tg := 21) dX4_passDay_13 rfl rfl <| sn_aload_n dX4_passDay_16 rfl <| sn_iload_n dX4_passDay_17 rfl <| sq_callV mt_54 hcs dX4_passDay_18 rfl w_496 w_497 w_498 w_56 w_499 hy_54 hm_54 <| sn_next rfl
set_option maxRecDepth 100000 in
theorem sX4_passDay_1 {G : ab_G} {xs : List Int32} {d : Nat} {cal : ab_F} (hcs : ab_CS G (ab_Z G xs) ab_Mf cal d) : ab_Sd G (ab_Z G xs) (d + 1) (ab_mY mX4_passDay pX4_passDay) 21 (bX4_passDay_1 cal) :=
  sn_aload_n dX4_passDay_21 rfl <| sq_callV mt_33 hcs dX4_passDay_22 rfl w_456 w_457 w_458 w_56 w_459 hy_33 hm_33 <| sn_bipush dX4_passDay_25 rfl <| sn_irem dX4_passDay_27 <| sn_aload_n dX4_passDay_28 rfl <| sn_getf dX4_passDay_29 rfl hinX4 (by decide) w_117 <| sn_cmp_ge (tg := 46) dX4_passDay_32 rfl rfl <| sn_aload_n dX4_passDay_35 rfl <| sn_aload_n dX4_passDay_36 rfl <| sq_callV mt_33 hcs dX4_passDay_37 rfl w_456 w_457 w_458 w_56 w_459 hy_33 hm_33 <| sn_bipush dX4_passDay_40 rfl <| sn_irem dX4_passDay_42 <| sq_callV mt_55 hcs dX4_passDay_43 rfl w_502 w_503 w_504 w_56 w_505 hy_55 hm_55 <| sn_next rfl
set_option maxRecDepth 100000 in
theorem sX4_passDay_2 {G : ab_G} {xs : List Int32} {d : Nat} {cal : ab_F} (hcs : ab_CS G (ab_Z G xs) ab_Mf cal d) : ab_Sd G (ab_Z G xs) (d + 1) (ab_mY mX4_passDay pX4_passDay) 46 (bX4_passDay_2 cal) :=
  sn_aload_n dX4_passDay_46 rfl <| sn_dup dX4_passDay_47 <| sn_getf dX4_passDay_48 rfl hinX4 (by decide) w_119 <| sn_iconst dX4_passDay_51 rfl <| sn_iadd dX4_passDay_52 <| sn_putI tyX4 tyX4_ok nmX4 dX4_passDay_53 rfl hinX4 (by decide) w_119 (Or.inl rfl) (tyX4_ok 13 (by decide)) <| sn_ret dX4_passDay_56 ab_ri_void
theorem sX4_passDay {G : ab_G} {xs : List Int32} {d : Nat} {cal : ab_F} (hcs : ab_CS G (ab_Z G xs) ab_Mf cal d) : ab_BS G (ab_Z G xs) (d + 1) (ab_mY mX4_passDay pX4_passDay) pX4_passDay (bX4_passDay cal) := ⟨sX4_passDay_0 hcs, sX4_passDay_1 hcs, sX4_passDay_2 hcs, trivial⟩
theorem dgX4_firstEmptyIn_0 : decode cX4_firstEmptyIn 0 = .ok (.iload_n 1, 1) ∧ decode cX4_firstEmptyIn 1 = .ok (.iconst 3, 1) ∧ decode cX4_firstEmptyIn 2 = .ok (.imul, 1) ∧ decode cX4_firstEmptyIn 3 = .ok (.istore_n 2, 1) ∧ decode cX4_firstEmptyIn 4 = .ok (.iload_n 2, 1) ∧ decode cX4_firstEmptyIn 5 = .ok (.istore_n 3, 1) ∧ decode cX4_firstEmptyIn 6 = .ok (.iload_n 3, 1) ∧ decode cX4_firstEmptyIn 7 = .ok (.iload_n 2, 1) ∧ decode cX4_firstEmptyIn 8 = .ok (.iconst 3, 1) ∧ decode cX4_firstEmptyIn 9 = .ok (.iadd, 1) ∧ decode cX4_firstEmptyIn 10 = .ok (.if_icmp .ge 21, 3) ∧ decode cX4_firstEmptyIn 13 = .ok (.aload_n 0, 1) ∧ decode cX4_firstEmptyIn 14 = .ok (.getfield 27, 3) ∧ decode cX4_firstEmptyIn 17 = .ok (.iload_n 3, 1) ∧ decode cX4_firstEmptyIn 18 = .ok (.iaload, 1) ∧ decode cX4_firstEmptyIn 19 = .ok (.iconst (-1), 1) := by decide +kernel
theorem dX4_firstEmptyIn_0 : decode cX4_firstEmptyIn 0 = .ok (.iload_n 1, 1) := dgX4_firstEmptyIn_0.1
theorem dX4_firstEmptyIn_1 : decode cX4_firstEmptyIn 1 = .ok (.iconst 3, 1) := dgX4_firstEmptyIn_0.2.1
theorem dX4_firstEmptyIn_2 : decode cX4_firstEmptyIn 2 = .ok (.imul, 1) := dgX4_firstEmptyIn_0.2.2.1
theorem dX4_firstEmptyIn_3 : decode cX4_firstEmptyIn 3 = .ok (.istore_n 2, 1) := dgX4_firstEmptyIn_0.2.2.2.1
theorem dX4_firstEmptyIn_4 : decode cX4_firstEmptyIn 4 = .ok (.iload_n 2, 1) := dgX4_firstEmptyIn_0.2.2.2.2.1
theorem dX4_firstEmptyIn_5 : decode cX4_firstEmptyIn 5 = .ok (.istore_n 3, 1) := dgX4_firstEmptyIn_0.2.2.2.2.2.1
theorem dX4_firstEmptyIn_6 : decode cX4_firstEmptyIn 6 = .ok (.iload_n 3, 1) := dgX4_firstEmptyIn_0.2.2.2.2.2.2.1
theorem dX4_firstEmptyIn_7 : decode cX4_firstEmptyIn 7 = .ok (.iload_n 2, 1) := dgX4_firstEmptyIn_0.2.2.2.2.2.2.2.1
theorem dX4_firstEmptyIn_8 : decode cX4_firstEmptyIn 8 = .ok (.iconst 3, 1) := dgX4_firstEmptyIn_0.2.2.2.2.2.2.2.2.1
theorem dX4_firstEmptyIn_9 : decode cX4_firstEmptyIn 9 = .ok (.iadd, 1) := dgX4_firstEmptyIn_0.2.2.2.2.2.2.2.2.2.1
theorem dX4_firstEmptyIn_10 : decode cX4_firstEmptyIn 10 = .ok (.if_icmp .ge 21, 3) := dgX4_firstEmptyIn_0.2.2.2.2.2.2.2.2.2.2.1
theorem dX4_firstEmptyIn_13 : decode cX4_firstEmptyIn 13 = .ok (.aload_n 0, 1) := dgX4_firstEmptyIn_0.2.2.2.2.2.2.2.2.2.2.2.1
theorem dX4_firstEmptyIn_14 : decode cX4_firstEmptyIn 14 = .ok (.getfield 27, 3) := dgX4_firstEmptyIn_0.2.2.2.2.2.2.2.2.2.2.2.2.1
theorem dX4_firstEmptyIn_17 : decode cX4_firstEmptyIn 17 = .ok (.iload_n 3, 1) := dgX4_firstEmptyIn_0.2.2.2.2.2.2.2.2.2.2.2.2.2.1
theorem dX4_firstEmptyIn_18 : decode cX4_firstEmptyIn 18 = .ok (.iaload, 1) := dgX4_firstEmptyIn_0.2.2.2.2.2.2.2.2.2.2.2.2.2.2.1
theorem dX4_firstEmptyIn_19 : decode cX4_firstEmptyIn 19 = .ok (.iconst (-1), 1) := dgX4_firstEmptyIn_0.2.2.2.2.2.2.2.2.2.2.2.2.2.2.2
theorem dgX4_firstEmptyIn_1 : decode cX4_firstEmptyIn 20 = .ok (.if_icmp .ne 5, 3) ∧ decode cX4_firstEmptyIn 23 = .ok (.iload_n 3, 1) ∧ decode cX4_firstEmptyIn 24 = .ok (.ireturn, 1) ∧ decode cX4_firstEmptyIn 25 = .ok (.iinc 3 1, 3) ∧ decode cX4_firstEmptyIn 28 = .ok (.goto (-22), 3) ∧ decode cX4_firstEmptyIn 31 = .ok (.iconst (-1), 1) ∧ decode cX4_firstEmptyIn 32 = .ok (.ireturn, 1) := by decide +kernel
theorem dX4_firstEmptyIn_20 : decode cX4_firstEmptyIn 20 = .ok (.if_icmp .ne 5, 3) := dgX4_firstEmptyIn_1.1
theorem dX4_firstEmptyIn_23 : decode cX4_firstEmptyIn 23 = .ok (.iload_n 3, 1) := dgX4_firstEmptyIn_1.2.1
theorem dX4_firstEmptyIn_24 : decode cX4_firstEmptyIn 24 = .ok (.ireturn, 1) := dgX4_firstEmptyIn_1.2.2.1
theorem dX4_firstEmptyIn_25 : decode cX4_firstEmptyIn 25 = .ok (.iinc 3 1, 3) := dgX4_firstEmptyIn_1.2.2.2.1
theorem dX4_firstEmptyIn_28 : decode cX4_firstEmptyIn 28 = .ok (.goto (-22), 3) := dgX4_firstEmptyIn_1.2.2.2.2.1
theorem dX4_firstEmptyIn_31 : decode cX4_firstEmptyIn 31 = .ok (.iconst (-1), 1) := dgX4_firstEmptyIn_1.2.2.2.2.2.1
theorem dX4_firstEmptyIn_32 : decode cX4_firstEmptyIn 32 = .ok (.ireturn, 1) := dgX4_firstEmptyIn_1.2.2.2.2.2.2
abbrev pX4_firstEmptyIn : List Nat := [0, 6, 25, 31]
def bX4_firstEmptyIn_0 (cal : ab_F) : ab_K := o_iload 1 <| o_push (.int 3) <| o_bin (fun x y => x * y) <| o_istore 2 <| o_iload 2 <| o_istore 3 <| o_goto 1
def bX4_firstEmptyIn_1 (cal : ab_F) : ab_K := o_iload 3 <| o_iload 2 <| o_push (.int 3) <| o_bin (fun x y => x + y) <| o_cmp (fun x y => decide (y ≤ x)) 3 <| o_aload 0 <| o_getf 3 5 <| o_iload 3 <| o_iald 0 <| o_push (.int (-1)) <| o_cmp (fun x y => decide (¬ x = y)) 2 <| o_iload 3 <| o_ret (some .int)
def bX4_firstEmptyIn_2 (cal : ab_F) : ab_K := o_iinc 3 1 <| o_goto 1
def bX4_firstEmptyIn_3 (cal : ab_F) : ab_K := o_push (.int (-1)) <| o_ret (some .int)
def bX4_firstEmptyIn (cal : ab_F) : List ab_K := [bX4_firstEmptyIn_0 cal, bX4_firstEmptyIn_1 cal, bX4_firstEmptyIn_2 cal, bX4_firstEmptyIn_3 cal]
set_option maxRecDepth 100000 in
theorem sX4_firstEmptyIn_0 {G : ab_G} {xs : List Int32} {d : Nat} {cal : ab_F} (hcs : ab_CS G (ab_Z G xs) ab_Mf cal d) : ab_Sd G (ab_Z G xs) (d + 1) (ab_mY mX4_firstEmptyIn pX4_firstEmptyIn) 0 (bX4_firstEmptyIn_0 cal) :=
  sn_iload_n dX4_firstEmptyIn_0 rfl <| sn_iconst dX4_firstEmptyIn_1 rfl <| sn_imul dX4_firstEmptyIn_2 <| sn_istore_n dX4_firstEmptyIn_3 rfl (by decide) <| sn_iload_n dX4_firstEmptyIn_4 rfl <| sn_istore_n dX4_firstEmptyIn_5 rfl (by decide) <| sn_next rfl
set_option maxRecDepth 100000 in
theorem sX4_firstEmptyIn_1 {G : ab_G} {xs : List Int32} {d : Nat} {cal : ab_F} (hcs : ab_CS G (ab_Z G xs) ab_Mf cal d) : ab_Sd G (ab_Z G xs) (d + 1) (ab_mY mX4_firstEmptyIn pX4_firstEmptyIn) 6 (bX4_firstEmptyIn_1 cal) :=
  sn_iload_n dX4_firstEmptyIn_6 rfl <| sn_iload_n dX4_firstEmptyIn_7 rfl <| sn_iconst dX4_firstEmptyIn_8 rfl <| sn_iadd dX4_firstEmptyIn_9 <| sn_cmp_ge (tg := 31) dX4_firstEmptyIn_10 rfl rfl <| sn_aload_n dX4_firstEmptyIn_13 rfl <| sn_getf dX4_firstEmptyIn_14 rfl hinX4 (by decide) w_104 <| sn_iload_n dX4_firstEmptyIn_17 rfl <| sn_iald dX4_firstEmptyIn_18 rfl <| sn_iconst dX4_firstEmptyIn_19 rfl <| sn_cmp_ne (tg := 25) dX4_firstEmptyIn_20 rfl rfl <| sn_iload_n dX4_firstEmptyIn_23 rfl <| sn_ret dX4_firstEmptyIn_24 ab_ri_int
set_option maxRecDepth 100000 in
theorem sX4_firstEmptyIn_2 {G : ab_G} {xs : List Int32} {d : Nat} {cal : ab_F} (hcs : ab_CS G (ab_Z G xs) ab_Mf cal d) : ab_Sd G (ab_Z G xs) (d + 1) (ab_mY mX4_firstEmptyIn pX4_firstEmptyIn) 25 (bX4_firstEmptyIn_2 cal) :=
  sn_iinc dX4_firstEmptyIn_25 rfl (by decide) <| sn_goto (tg := 6) dX4_firstEmptyIn_28 rfl rfl
set_option maxRecDepth 100000 in
theorem sX4_firstEmptyIn_3 {G : ab_G} {xs : List Int32} {d : Nat} {cal : ab_F} (hcs : ab_CS G (ab_Z G xs) ab_Mf cal d) : ab_Sd G (ab_Z G xs) (d + 1) (ab_mY mX4_firstEmptyIn pX4_firstEmptyIn) 31 (bX4_firstEmptyIn_3 cal) :=
  sn_iconst dX4_firstEmptyIn_31 rfl <| sn_ret dX4_firstEmptyIn_32 ab_ri_int
theorem sX4_firstEmptyIn {G : ab_G} {xs : List Int32} {d : Nat} {cal : ab_F} (hcs : ab_CS G (ab_Z G xs) ab_Mf cal d) : ab_BS G (ab_Z G xs) (d + 1) (ab_mY mX4_firstEmptyIn pX4_firstEmptyIn) pX4_firstEmptyIn (bX4_firstEmptyIn cal) := ⟨sX4_firstEmptyIn_0 hcs, sX4_firstEmptyIn_1 hcs, sX4_firstEmptyIn_2 hcs, sX4_firstEmptyIn_3 hcs, trivial⟩
theorem dgX4_layBestAt_0 : decode cX4_layBestAt 0 = .ok (.iconst 0, 1) ∧ decode cX4_layBestAt 1 = .ok (.istore_n 2, 1) ∧ decode cX4_layBestAt 2 = .ok (.iconst (-1), 1) ∧ decode cX4_layBestAt 3 = .ok (.istore_n 3, 1) ∧ decode cX4_layBestAt 4 = .ok (.iconst 0, 1) ∧ decode cX4_layBestAt 5 = .ok (.istore 4, 2) ∧ decode cX4_layBestAt 7 = .ok (.iconst 0, 1) ∧ decode cX4_layBestAt 8 = .ok (.istore 5, 2) ∧ decode cX4_layBestAt 10 = .ok (.iload 5, 2) ∧ decode cX4_layBestAt 12 = .ok (.aload_n 0, 1) ∧ decode cX4_layBestAt 13 = .ok (.getfield 61, 3) ∧ decode cX4_layBestAt 16 = .ok (.if_icmp .ge 71, 3) ∧ decode cX4_layBestAt 19 = .ok (.aload_n 0, 1) ∧ decode cX4_layBestAt 20 = .ok (.getfield 21, 3) ∧ decode cX4_layBestAt 23 = .ok (.iload 5, 2) ∧ decode cX4_layBestAt 25 = .ok (.iaload, 1) := by decide +kernel
theorem dX4_layBestAt_0 : decode cX4_layBestAt 0 = .ok (.iconst 0, 1) := dgX4_layBestAt_0.1
theorem dX4_layBestAt_1 : decode cX4_layBestAt 1 = .ok (.istore_n 2, 1) := dgX4_layBestAt_0.2.1
theorem dX4_layBestAt_2 : decode cX4_layBestAt 2 = .ok (.iconst (-1), 1) := dgX4_layBestAt_0.2.2.1
theorem dX4_layBestAt_3 : decode cX4_layBestAt 3 = .ok (.istore_n 3, 1) := dgX4_layBestAt_0.2.2.2.1
theorem dX4_layBestAt_4 : decode cX4_layBestAt 4 = .ok (.iconst 0, 1) := dgX4_layBestAt_0.2.2.2.2.1
theorem dX4_layBestAt_5 : decode cX4_layBestAt 5 = .ok (.istore 4, 2) := dgX4_layBestAt_0.2.2.2.2.2.1
theorem dX4_layBestAt_7 : decode cX4_layBestAt 7 = .ok (.iconst 0, 1) := dgX4_layBestAt_0.2.2.2.2.2.2.1
theorem dX4_layBestAt_8 : decode cX4_layBestAt 8 = .ok (.istore 5, 2) := dgX4_layBestAt_0.2.2.2.2.2.2.2.1
theorem dX4_layBestAt_10 : decode cX4_layBestAt 10 = .ok (.iload 5, 2) := dgX4_layBestAt_0.2.2.2.2.2.2.2.2.1
theorem dX4_layBestAt_12 : decode cX4_layBestAt 12 = .ok (.aload_n 0, 1) := dgX4_layBestAt_0.2.2.2.2.2.2.2.2.2.1
theorem dX4_layBestAt_13 : decode cX4_layBestAt 13 = .ok (.getfield 61, 3) := dgX4_layBestAt_0.2.2.2.2.2.2.2.2.2.2.1
theorem dX4_layBestAt_16 : decode cX4_layBestAt 16 = .ok (.if_icmp .ge 71, 3) := dgX4_layBestAt_0.2.2.2.2.2.2.2.2.2.2.2.1
theorem dX4_layBestAt_19 : decode cX4_layBestAt 19 = .ok (.aload_n 0, 1) := dgX4_layBestAt_0.2.2.2.2.2.2.2.2.2.2.2.2.1
theorem dX4_layBestAt_20 : decode cX4_layBestAt 20 = .ok (.getfield 21, 3) := dgX4_layBestAt_0.2.2.2.2.2.2.2.2.2.2.2.2.2.1
theorem dX4_layBestAt_23 : decode cX4_layBestAt 23 = .ok (.iload 5, 2) := dgX4_layBestAt_0.2.2.2.2.2.2.2.2.2.2.2.2.2.2.1
theorem dX4_layBestAt_25 : decode cX4_layBestAt 25 = .ok (.iaload, 1) := dgX4_layBestAt_0.2.2.2.2.2.2.2.2.2.2.2.2.2.2.2
theorem dgX4_layBestAt_1 : decode cX4_layBestAt 26 = .ok (.bipush 12, 2) ∧ decode cX4_layBestAt 28 = .ok (.if_icmp .eq 6, 3) ∧ decode cX4_layBestAt 31 = .ok (.goto 50, 3) ∧ decode cX4_layBestAt 34 = .ok (.iconst 0, 1) ∧ decode cX4_layBestAt 35 = .ok (.istore 6, 2) ∧ decode cX4_layBestAt 37 = .ok (.iload 6, 2) ∧ decode cX4_layBestAt 39 = .ok (.iconst 2, 1) ∧ decode cX4_layBestAt 40 = .ok (.if_icmp .ge 41, 3) ∧ decode cX4_layBestAt 43 = .ok (.aload_n 0, 1) ∧ decode cX4_layBestAt 44 = .ok (.iload 5, 2) ∧ decode cX4_layBestAt 46 = .ok (.iload_n 1, 1) ∧ decode cX4_layBestAt 47 = .ok (.iload 6, 2) ∧ decode cX4_layBestAt 49 = .ok (.invokevirtual 130, 3) ∧ decode cX4_layBestAt 52 = .ok (.istore 7, 2) ∧ decode cX4_layBestAt 54 = .ok (.iload_n 3, 1) ∧ decode cX4_layBestAt 55 = .ok (.iconst (-1), 1) := by decide +kernel
theorem dX4_layBestAt_26 : decode cX4_layBestAt 26 = .ok (.bipush 12, 2) := dgX4_layBestAt_1.1
theorem dX4_layBestAt_28 : decode cX4_layBestAt 28 = .ok (.if_icmp .eq 6, 3) := dgX4_layBestAt_1.2.1
theorem dX4_layBestAt_31 : decode cX4_layBestAt 31 = .ok (.goto 50, 3) := dgX4_layBestAt_1.2.2.1
theorem dX4_layBestAt_34 : decode cX4_layBestAt 34 = .ok (.iconst 0, 1) := dgX4_layBestAt_1.2.2.2.1
theorem dX4_layBestAt_35 : decode cX4_layBestAt 35 = .ok (.istore 6, 2) := dgX4_layBestAt_1.2.2.2.2.1
theorem dX4_layBestAt_37 : decode cX4_layBestAt 37 = .ok (.iload 6, 2) := dgX4_layBestAt_1.2.2.2.2.2.1
theorem dX4_layBestAt_39 : decode cX4_layBestAt 39 = .ok (.iconst 2, 1) := dgX4_layBestAt_1.2.2.2.2.2.2.1
theorem dX4_layBestAt_40 : decode cX4_layBestAt 40 = .ok (.if_icmp .ge 41, 3) := dgX4_layBestAt_1.2.2.2.2.2.2.2.1
theorem dX4_layBestAt_43 : decode cX4_layBestAt 43 = .ok (.aload_n 0, 1) := dgX4_layBestAt_1.2.2.2.2.2.2.2.2.1
theorem dX4_layBestAt_44 : decode cX4_layBestAt 44 = .ok (.iload 5, 2) := dgX4_layBestAt_1.2.2.2.2.2.2.2.2.2.1
theorem dX4_layBestAt_46 : decode cX4_layBestAt 46 = .ok (.iload_n 1, 1) := dgX4_layBestAt_1.2.2.2.2.2.2.2.2.2.2.1
theorem dX4_layBestAt_47 : decode cX4_layBestAt 47 = .ok (.iload 6, 2) := dgX4_layBestAt_1.2.2.2.2.2.2.2.2.2.2.2.1
theorem dX4_layBestAt_49 : decode cX4_layBestAt 49 = .ok (.invokevirtual 130, 3) := dgX4_layBestAt_1.2.2.2.2.2.2.2.2.2.2.2.2.1
theorem dX4_layBestAt_52 : decode cX4_layBestAt 52 = .ok (.istore 7, 2) := dgX4_layBestAt_1.2.2.2.2.2.2.2.2.2.2.2.2.2.1
theorem dX4_layBestAt_54 : decode cX4_layBestAt 54 = .ok (.iload_n 3, 1) := dgX4_layBestAt_1.2.2.2.2.2.2.2.2.2.2.2.2.2.2.1
theorem dX4_layBestAt_55 : decode cX4_layBestAt 55 = .ok (.iconst (-1), 1) := dgX4_layBestAt_1.2.2.2.2.2.2.2.2.2.2.2.2.2.2.2
theorem dgX4_layBestAt_2 : decode cX4_layBestAt 56 = .ok (.if_icmp .eq 9, 3) ∧ decode cX4_layBestAt 59 = .ok (.iload 7, 2) ∧ decode cX4_layBestAt 61 = .ok (.iload_n 2, 1) ∧ decode cX4_layBestAt 62 = .ok (.if_icmp .ge 13, 3) ∧ decode cX4_layBestAt 65 = .ok (.iload 7, 2) ∧ decode cX4_layBestAt 67 = .ok (.istore_n 2, 1) ∧ decode cX4_layBestAt 68 = .ok (.iload 5, 2) ∧ decode cX4_layBestAt 70 = .ok (.istore_n 3, 1) ∧ decode cX4_layBestAt 71 = .ok (.iload 6, 2) ∧ decode cX4_layBestAt 73 = .ok (.istore 4, 2) ∧ decode cX4_layBestAt 75 = .ok (.iinc 6 1, 3) ∧ decode cX4_layBestAt 78 = .ok (.goto (-41), 3) ∧ decode cX4_layBestAt 81 = .ok (.iinc 5 1, 3) ∧ decode cX4_layBestAt 84 = .ok (.goto (-74), 3) ∧ decode cX4_layBestAt 87 = .ok (.iload_n 3, 1) ∧ decode cX4_layBestAt 88 = .ok (.iconst (-1), 1) := by decide +kernel
theorem dX4_layBestAt_56 : decode cX4_layBestAt 56 = .ok (.if_icmp .eq 9, 3) := dgX4_layBestAt_2.1
theorem dX4_layBestAt_59 : decode cX4_layBestAt 59 = .ok (.iload 7, 2) := dgX4_layBestAt_2.2.1
theorem dX4_layBestAt_61 : decode cX4_layBestAt 61 = .ok (.iload_n 2, 1) := dgX4_layBestAt_2.2.2.1
theorem dX4_layBestAt_62 : decode cX4_layBestAt 62 = .ok (.if_icmp .ge 13, 3) := dgX4_layBestAt_2.2.2.2.1
theorem dX4_layBestAt_65 : decode cX4_layBestAt 65 = .ok (.iload 7, 2) := dgX4_layBestAt_2.2.2.2.2.1
theorem dX4_layBestAt_67 : decode cX4_layBestAt 67 = .ok (.istore_n 2, 1) := dgX4_layBestAt_2.2.2.2.2.2.1
theorem dX4_layBestAt_68 : decode cX4_layBestAt 68 = .ok (.iload 5, 2) := dgX4_layBestAt_2.2.2.2.2.2.2.1
theorem dX4_layBestAt_70 : decode cX4_layBestAt 70 = .ok (.istore_n 3, 1) := dgX4_layBestAt_2.2.2.2.2.2.2.2.1
theorem dX4_layBestAt_71 : decode cX4_layBestAt 71 = .ok (.iload 6, 2) := dgX4_layBestAt_2.2.2.2.2.2.2.2.2.1
theorem dX4_layBestAt_73 : decode cX4_layBestAt 73 = .ok (.istore 4, 2) := dgX4_layBestAt_2.2.2.2.2.2.2.2.2.2.1
theorem dX4_layBestAt_75 : decode cX4_layBestAt 75 = .ok (.iinc 6 1, 3) := dgX4_layBestAt_2.2.2.2.2.2.2.2.2.2.2.1
theorem dX4_layBestAt_78 : decode cX4_layBestAt 78 = .ok (.goto (-41), 3) := dgX4_layBestAt_2.2.2.2.2.2.2.2.2.2.2.2.1
theorem dX4_layBestAt_81 : decode cX4_layBestAt 81 = .ok (.iinc 5 1, 3) := dgX4_layBestAt_2.2.2.2.2.2.2.2.2.2.2.2.2.1
theorem dX4_layBestAt_84 : decode cX4_layBestAt 84 = .ok (.goto (-74), 3) := dgX4_layBestAt_2.2.2.2.2.2.2.2.2.2.2.2.2.2.1
theorem dX4_layBestAt_87 : decode cX4_layBestAt 87 = .ok (.iload_n 3, 1) := dgX4_layBestAt_2.2.2.2.2.2.2.2.2.2.2.2.2.2.2.1
theorem dX4_layBestAt_88 : decode cX4_layBestAt 88 = .ok (.iconst (-1), 1) := dgX4_layBestAt_2.2.2.2.2.2.2.2.2.2.2.2.2.2.2.2
theorem dgX4_layBestAt_3 : decode cX4_layBestAt 89 = .ok (.if_icmp .eq 17, 3) ∧ decode cX4_layBestAt 92 = .ok (.aload_n 0, 1) ∧ decode cX4_layBestAt 93 = .ok (.iload_n 3, 1) ∧ decode cX4_layBestAt 94 = .ok (.iload_n 1, 1) ∧ decode cX4_layBestAt 95 = .ok (.invokevirtual 167, 3) ∧ decode cX4_layBestAt 98 = .ok (.aload_n 0, 1) ∧ decode cX4_layBestAt 99 = .ok (.getfield 24, 3) ∧ decode cX4_layBestAt 102 = .ok (.iload_n 3, 1) ∧ decode cX4_layBestAt 103 = .ok (.iload 4, 2) ∧ decode cX4_layBestAt 105 = .ok (.iastore, 1) ∧ decode cX4_layBestAt 106 = .ok (.return_, 1) := by decide +kernel
theorem dX4_layBestAt_89 : decode cX4_layBestAt 89 = .ok (.if_icmp .eq 17, 3) := dgX4_layBestAt_3.1
theorem dX4_layBestAt_92 : decode cX4_layBestAt 92 = .ok (.aload_n 0, 1) := dgX4_layBestAt_3.2.1
theorem dX4_layBestAt_93 : decode cX4_layBestAt 93 = .ok (.iload_n 3, 1) := dgX4_layBestAt_3.2.2.1
theorem dX4_layBestAt_94 : decode cX4_layBestAt 94 = .ok (.iload_n 1, 1) := dgX4_layBestAt_3.2.2.2.1
theorem dX4_layBestAt_95 : decode cX4_layBestAt 95 = .ok (.invokevirtual 167, 3) := dgX4_layBestAt_3.2.2.2.2.1
theorem dX4_layBestAt_98 : decode cX4_layBestAt 98 = .ok (.aload_n 0, 1) := dgX4_layBestAt_3.2.2.2.2.2.1
theorem dX4_layBestAt_99 : decode cX4_layBestAt 99 = .ok (.getfield 24, 3) := dgX4_layBestAt_3.2.2.2.2.2.2.1
theorem dX4_layBestAt_102 : decode cX4_layBestAt 102 = .ok (.iload_n 3, 1) := dgX4_layBestAt_3.2.2.2.2.2.2.2.1
theorem dX4_layBestAt_103 : decode cX4_layBestAt 103 = .ok (.iload 4, 2) := dgX4_layBestAt_3.2.2.2.2.2.2.2.2.1
theorem dX4_layBestAt_105 : decode cX4_layBestAt 105 = .ok (.iastore, 1) := dgX4_layBestAt_3.2.2.2.2.2.2.2.2.2.1
theorem dX4_layBestAt_106 : decode cX4_layBestAt 106 = .ok (.return_, 1) := dgX4_layBestAt_3.2.2.2.2.2.2.2.2.2.2
abbrev pX4_layBestAt : List Nat := [0, 10, 34, 37, 65, 75, 81, 87, 106]
def bX4_layBestAt_0 (cal : ab_F) : ab_K := o_push (.int 0) <| o_istore 2 <| o_push (.int (-1)) <| o_istore 3 <| o_push (.int 0) <| o_istore 4 <| o_push (.int 0) <| o_istore 5 <| o_goto 1
def bX4_layBestAt_1 (cal : ab_F) : ab_K := o_iload 5 <| o_aload 0 <| o_getf 3 10 <| o_cmp (fun x y => decide (y ≤ x)) 7 <| o_aload 0 <| o_getf 3 3 <| o_iload 5 <| o_iald 0 <| o_push (.int 12) <| o_cmp (fun x y => decide (x = y)) 2 <| o_goto 6
def bX4_layBestAt_2 (cal : ab_F) : ab_K := o_push (.int 0) <| o_istore 6 <| o_goto 3
def bX4_layBestAt_3 (cal : ab_F) : ab_K := o_iload 6 <| o_push (.int 2) <| o_cmp (fun x y => decide (y ≤ x)) 6 <| o_aload 0 <| o_iload 5 <| o_iload 1 <| o_iload 6 <| o_callV cal 42 3 3 <| o_istore 7 <| o_iload 3 <| o_push (.int (-1)) <| o_cmp (fun x y => decide (x = y)) 4 <| o_iload 7 <| o_iload 2 <| o_cmp (fun x y => decide (y ≤ x)) 5 <| o_goto 4
def bX4_layBestAt_4 (cal : ab_F) : ab_K := o_iload 7 <| o_istore 2 <| o_iload 5 <| o_istore 3 <| o_iload 6 <| o_istore 4 <| o_goto 5
def bX4_layBestAt_5 (cal : ab_F) : ab_K := o_iinc 6 1 <| o_goto 3
def bX4_layBestAt_6 (cal : ab_F) : ab_K := o_iinc 5 1 <| o_goto 1
def bX4_layBestAt_7 (cal : ab_F) : ab_K := o_iload 3 <| o_push (.int (-1)) <| o_cmp (fun x y => decide (x = y)) 8 <| o_aload 0 <| o_iload 3 <| o_iload 1 <| o_callV cal 45 2 3 <| o_aload 0 <| o_getf 3 4 <| o_iload 3 <| o_iload 4 <| o_iast 0 (fun x => x) <| o_goto 8
def bX4_layBestAt_8 (cal : ab_F) : ab_K := o_ret none
def bX4_layBestAt (cal : ab_F) : List ab_K := [bX4_layBestAt_0 cal, bX4_layBestAt_1 cal, bX4_layBestAt_2 cal, bX4_layBestAt_3 cal, bX4_layBestAt_4 cal, bX4_layBestAt_5 cal, bX4_layBestAt_6 cal, bX4_layBestAt_7 cal, bX4_layBestAt_8 cal]
set_option maxRecDepth 100000 in
theorem sX4_layBestAt_0 {G : ab_G} {xs : List Int32} {d : Nat} {cal : ab_F} (hcs : ab_CS G (ab_Z G xs) ab_Mf cal d) : ab_Sd G (ab_Z G xs) (d + 1) (ab_mY mX4_layBestAt pX4_layBestAt) 0 (bX4_layBestAt_0 cal) :=
  sn_iconst dX4_layBestAt_0 rfl <| sn_istore_n dX4_layBestAt_1 rfl (by decide) <| sn_iconst dX4_layBestAt_2 rfl <| sn_istore_n dX4_layBestAt_3 rfl (by decide) <| sn_iconst dX4_layBestAt_4 rfl <| sn_istore dX4_layBestAt_5 (by decide) <| sn_iconst dX4_layBestAt_7 rfl <| sn_istore dX4_layBestAt_8 (by decide) <| sn_next rfl
set_option maxRecDepth 100000 in
theorem sX4_layBestAt_1 {G : ab_G} {xs : List Int32} {d : Nat} {cal : ab_F} (hcs : ab_CS G (ab_Z G xs) ab_Mf cal d) : ab_Sd G (ab_Z G xs) (d + 1) (ab_mY mX4_layBestAt pX4_layBestAt) 10 (bX4_layBestAt_1 cal) :=
  sn_iload dX4_layBestAt_10 <| sn_aload_n dX4_layBestAt_12 rfl <| sn_getf dX4_layBestAt_13 rfl hinX4 (by decide) w_113 <| sn_cmp_ge (tg := 87) dX4_layBestAt_16 rfl rfl <| sn_aload_n dX4_layBestAt_19 rfl <| sn_getf dX4_layBestAt_20 rfl hinX4 (by decide) w_99 <| sn_iload dX4_layBestAt_23 <| sn_iald dX4_layBestAt_25 rfl <| sn_bipush dX4_layBestAt_26 rfl <| sn_cmp_eq (tg := 34) dX4_layBestAt_28 rfl rfl <| sn_goto (tg := 81) dX4_layBestAt_31 rfl rfl
set_option maxRecDepth 100000 in
theorem sX4_layBestAt_2 {G : ab_G} {xs : List Int32} {d : Nat} {cal : ab_F} (hcs : ab_CS G (ab_Z G xs) ab_Mf cal d) : ab_Sd G (ab_Z G xs) (d + 1) (ab_mY mX4_layBestAt pX4_layBestAt) 34 (bX4_layBestAt_2 cal) :=
  sn_iconst dX4_layBestAt_34 rfl <| sn_istore dX4_layBestAt_35 (by decide) <| sn_next rfl
set_option maxRecDepth 100000 in
theorem sX4_layBestAt_3 {G : ab_G} {xs : List Int32} {d : Nat} {cal : ab_F} (hcs : ab_CS G (ab_Z G xs) ab_Mf cal d) : ab_Sd G (ab_Z G xs) (d + 1) (ab_mY mX4_layBestAt pX4_layBestAt) 37 (bX4_layBestAt_3 cal) :=
  sn_iload dX4_layBestAt_37 <| sn_iconst dX4_layBestAt_39 rfl <| sn_cmp_ge (tg := 81) dX4_layBestAt_40 rfl rfl <| sn_aload_n dX4_layBestAt_43 rfl <| sn_iload dX4_layBestAt_44 <| sn_iload_n dX4_layBestAt_46 rfl <| sn_iload dX4_layBestAt_47 <| sq_callV mt_42 hcs dX4_layBestAt_49 rfl w_500 w_402 w_403 w_56 w_404 hy_42 hm_42 <| sn_istore dX4_layBestAt_52 (by decide) <| sn_iload_n dX4_layBestAt_54 rfl <| sn_iconst dX4_layBestAt_55 rfl <| sn_cmp_eq (tg := 65) dX4_layBestAt_56 rfl rfl <| sn_iload dX4_layBestAt_59 <| sn_iload_n dX4_layBestAt_61 rfl <| sn_cmp_ge (tg := 75) dX4_layBestAt_62 rfl rfl <| sn_next rfl
set_option maxRecDepth 100000 in
theorem sX4_layBestAt_4 {G : ab_G} {xs : List Int32} {d : Nat} {cal : ab_F} (hcs : ab_CS G (ab_Z G xs) ab_Mf cal d) : ab_Sd G (ab_Z G xs) (d + 1) (ab_mY mX4_layBestAt pX4_layBestAt) 65 (bX4_layBestAt_4 cal) :=
  sn_iload dX4_layBestAt_65 <| sn_istore_n dX4_layBestAt_67 rfl (by decide) <| sn_iload dX4_layBestAt_68 <| sn_istore_n dX4_layBestAt_70 rfl (by decide) <| sn_iload dX4_layBestAt_71 <| sn_istore dX4_layBestAt_73 (by decide) <| sn_next rfl
set_option maxRecDepth 100000 in
theorem sX4_layBestAt_5 {G : ab_G} {xs : List Int32} {d : Nat} {cal : ab_F} (hcs : ab_CS G (ab_Z G xs) ab_Mf cal d) : ab_Sd G (ab_Z G xs) (d + 1) (ab_mY mX4_layBestAt pX4_layBestAt) 75 (bX4_layBestAt_5 cal) :=
  sn_iinc dX4_layBestAt_75 rfl (by decide) <| sn_goto (tg := 37) dX4_layBestAt_78 rfl rfl
set_option maxRecDepth 100000 in
theorem sX4_layBestAt_6 {G : ab_G} {xs : List Int32} {d : Nat} {cal : ab_F} (hcs : ab_CS G (ab_Z G xs) ab_Mf cal d) : ab_Sd G (ab_Z G xs) (d + 1) (ab_mY mX4_layBestAt pX4_layBestAt) 81 (bX4_layBestAt_6 cal) :=
  sn_iinc dX4_layBestAt_81 rfl (by decide) <| sn_goto (tg := 10) dX4_layBestAt_84 rfl rfl
set_option maxRecDepth 100000 in
theorem sX4_layBestAt_7 {G : ab_G} {xs : List Int32} {d : Nat} {cal : ab_F} (hcs : ab_CS G (ab_Z G xs) ab_Mf cal d) : ab_Sd G (ab_Z G xs) (d + 1) (ab_mY mX4_layBestAt pX4_layBestAt) 87 (bX4_layBestAt_7 cal) :=
  sn_iload_n dX4_layBestAt_87 rfl <| sn_iconst dX4_layBestAt_88 rfl <| sn_cmp_eq (tg := 106) dX4_layBestAt_89 rfl rfl <| sn_aload_n dX4_layBestAt_92 rfl <| sn_iload_n dX4_layBestAt_93 rfl <| sn_iload_n dX4_layBestAt_94 rfl <| sq_callV mt_45 hcs dX4_layBestAt_95 rfl w_501 w_429 w_430 w_56 w_431 hy_45 hm_45 <| sn_aload_n dX4_layBestAt_98 rfl <| sn_getf dX4_layBestAt_99 rfl hinX4 (by decide) w_102 <| sn_iload_n dX4_layBestAt_102 rfl <| sn_iload dX4_layBestAt_103 <| sn_iast dX4_layBestAt_105 rfl rfl <| sn_next rfl
set_option maxRecDepth 100000 in
theorem sX4_layBestAt_8 {G : ab_G} {xs : List Int32} {d : Nat} {cal : ab_F} (hcs : ab_CS G (ab_Z G xs) ab_Mf cal d) : ab_Sd G (ab_Z G xs) (d + 1) (ab_mY mX4_layBestAt pX4_layBestAt) 106 (bX4_layBestAt_8 cal) :=
  sn_ret dX4_layBestAt_106 ab_ri_void
theorem sX4_layBestAt {G : ab_G} {xs : List Int32} {d : Nat} {cal : ab_F} (hcs : ab_CS G (ab_Z G xs) ab_Mf cal d) : ab_BS G (ab_Z G xs) (d + 1) (ab_mY mX4_layBestAt pX4_layBestAt) pX4_layBestAt (bX4_layBestAt cal) := ⟨sX4_layBestAt_0 hcs, sX4_layBestAt_1 hcs, sX4_layBestAt_2 hcs, sX4_layBestAt_3 hcs, sX4_layBestAt_4 hcs, sX4_layBestAt_5 hcs, sX4_layBestAt_6 hcs, sX4_layBestAt_7 hcs, sX4_layBestAt_8 hcs, trivial⟩
