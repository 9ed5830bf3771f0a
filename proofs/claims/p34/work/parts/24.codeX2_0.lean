theorem dgX2_init_0 : decode cX2_init 0 = .ok (.aload_n 0, 1) ∧ decode cX2_init 1 = .ok (.invokespecial 3, 3) ∧ decode cX2_init 4 = .ok (.aload_n 0, 1) ∧ decode cX2_init 5 = .ok (.bipush 24, 2) ∧ decode cX2_init 7 = .ok (.newarray .int, 2) ∧ decode cX2_init 9 = .ok (.putfield 9, 3) ∧ decode cX2_init 12 = .ok (.aload_n 0, 1) ∧ decode cX2_init 13 = .ok (.iconst (-1), 1) ∧ decode cX2_init 14 = .ok (.putfield 15, 3) ∧ decode cX2_init 17 = .ok (.return_, 1) := by decide +kernel
theorem dX2_init_0 : decode cX2_init 0 = .ok (.aload_n 0, 1) := dgX2_init_0.1
theorem dX2_init_1 : decode cX2_init 1 = .ok (.invokespecial 3, 3) := dgX2_init_0.2.1
theorem dX2_init_4 : decode cX2_init 4 = .ok (.aload_n 0, 1) := dgX2_init_0.2.2.1
theorem dX2_init_5 : decode cX2_init 5 = .ok (.bipush 24, 2) := dgX2_init_0.2.2.2.1
theorem dX2_init_7 : decode cX2_init 7 = .ok (.newarray .int, 2) := dgX2_init_0.2.2.2.2.1
theorem dX2_init_9 : decode cX2_init 9 = .ok (.putfield 9, 3) := dgX2_init_0.2.2.2.2.2.1
theorem dX2_init_12 : decode cX2_init 12 = .ok (.aload_n 0, 1) := dgX2_init_0.2.2.2.2.2.2.1
theorem dX2_init_13 : decode cX2_init 13 = .ok (.iconst (-1), 1) := dgX2_init_0.2.2.2.2.2.2.2.1
theorem dX2_init_14 : decode cX2_init 14 = .ok (.putfield 15, 3) := dgX2_init_0.2.2.2.2.2.2.2.2.1
theorem dX2_init_17 : decode cX2_init 17 = .ok (.return_, 1) := dgX2_init_0.2.2.2.2.2.2.2.2.2
abbrev pX2_init : List Nat := [0]
def bX2_init_0 (cal : ab_F) : ab_K := o_aload 0 <| o_oinit <| o_aload 0 <| o_push (.int 24) <| o_newi 0 <| o_putA 1 0 <| o_aload 0 <| o_push (.int (-1)) <| o_putI 1 1 <| o_ret none
def bX2_init (cal : ab_F) : List ab_K := [bX2_init_0 cal]
set_option maxRecDepth 100000 in
theorem sX2_init_0 {G : ab_G} {xs : List Int32} {d : Nat} {cal : ab_F} (hcs : ab_CS G (ab_Z G xs) ab_Mf cal d) : ab_Sd G (ab_Z G xs) (d + 1) (ab_mY mX2_init pX2_init) 0 (bX2_init_0 cal) :=
  sn_aload_n dX2_init_0 rfl <| sn_oinit (Nat.le_add_left 1 _) dX2_init_1 w_240 w_80 w_81 <| sn_aload_n dX2_init_4 rfl <| sn_bipush dX2_init_5 rfl <| sn_newi dX2_init_7 rfl w_154 rfl (fun _ _ h => h) rfl (by decide) <| sn_putA tyX2 tyX2_ok nmX2 dX2_init_9 rfl hinX2 (by decide) w_241 (Or.inr ⟨rfl, rfl, rfl⟩) (tyX2_ok 0 (by decide)) (fun _ => ⟨rfl, rfl⟩) ⟨rfl, rfl⟩ <| sn_aload_n dX2_init_12 rfl <| sn_iconst dX2_init_13 rfl <| sn_putI tyX2 tyX2_ok nmX2 dX2_init_14 rfl hinX2 (by decide) w_244 (Or.inl rfl) (tyX2_ok 1 (by decide)) <| sn_ret dX2_init_17 ab_ri_void
theorem sX2_init {G : ab_G} {xs : List Int32} {d : Nat} {cal : ab_F} (hcs : ab_CS G (ab_Z G xs) ab_Mf cal d) : ab_BS G (ab_Z G xs) (d + 1) (ab_mY mX2_init pX2_init) pX2_init (bX2_init cal) := ⟨sX2_init_0 hcs, trivial⟩
theorem dgX2_isMissing_0 : decode cX2_isMissing 0 = .ok (.aload_n 0, 1) ∧ decode cX2_isMissing 1 = .ok (.getfield 15, 3) ∧ decode cX2_isMissing 4 = .ok (.iconst (-1), 1) ∧ decode cX2_isMissing 5 = .ok (.if_icmp .ne 7, 3) ∧ decode cX2_isMissing 8 = .ok (.iconst 1, 1) ∧ decode cX2_isMissing 9 = .ok (.goto 4, 3) ∧ decode cX2_isMissing 12 = .ok (.iconst 0, 1) ∧ decode cX2_isMissing 13 = .ok (.ireturn, 1) := by decide +kernel
theorem dX2_isMissing_0 : decode cX2_isMissing 0 = .ok (.aload_n 0, 1) := dgX2_isMissing_0.1
theorem dX2_isMissing_1 : decode cX2_isMissing 1 = .ok (.getfield 15, 3) := dgX2_isMissing_0.2.1
theorem dX2_isMissing_4 : decode cX2_isMissing 4 = .ok (.iconst (-1), 1) := dgX2_isMissing_0.2.2.1
theorem dX2_isMissing_5 : decode cX2_isMissing 5 = .ok (.if_icmp .ne 7, 3) := dgX2_isMissing_0.2.2.2.1
theorem dX2_isMissing_8 : decode cX2_isMissing 8 = .ok (.iconst 1, 1) := dgX2_isMissing_0.2.2.2.2.1
theorem dX2_isMissing_9 : decode cX2_isMissing 9 = .ok (.goto 4, 3) := dgX2_isMissing_0.2.2.2.2.2.1
theorem dX2_isMissing_12 : decode cX2_isMissing 12 = .ok (.iconst 0, 1) := dgX2_isMissing_0.2.2.2.2.2.2.1
theorem dX2_isMissing_13 : decode cX2_isMissing 13 = .ok (.ireturn, 1) := dgX2_isMissing_0.2.2.2.2.2.2.2
abbrev pX2_isMissing : List Nat := [0, 12, 13]
def bX2_isMissing_0 (cal : ab_F) : ab_K := o_aload 0 <| o_getf 1 1 <| o_push (.int (-1)) <| o_cmp (fun x y => decide (¬ x = y)) 1 <| o_push (.int 1) <| o_goto 2
def bX2_isMissing_1 (cal : ab_F) : ab_K := o_push (.int 0) <| o_goto 2
def bX2_isMissing_2 (cal : ab_F) : ab_K := o_ret (some .boolean)
def bX2_isMissing (cal : ab_F) : List ab_K := [bX2_isMissing_0 cal, bX2_isMissing_1 cal, bX2_isMissing_2 cal]
set_option maxRecDepth 100000 in
theorem sX2_isMissing_0 {G : ab_G} {xs : List Int32} {d : Nat} {cal : ab_F} (hcs : ab_CS G (ab_Z G xs) ab_Mf cal d) : ab_Sd G (ab_Z G xs) (d + 1) (ab_mY mX2_isMissing pX2_isMissing) 0 (bX2_isMissing_0 cal) :=
  sn_aload_n dX2_isMissing_0 rfl <| sn_getf dX2_isMissing_1 rfl hinX2 (by decide) w_244 <| sn_iconst dX2_isMissing_4 rfl <| sn_cmp_ne (tg := 12) dX2_isMissing_5 rfl rfl <| sn_iconst dX2_isMissing_8 rfl <| sn_goto (tg := 13) dX2_isMissing_9 rfl rfl
set_option maxRecDepth 100000 in
theorem sX2_isMissing_1 {G : ab_G} {xs : List Int32} {d : Nat} {cal : ab_F} (hcs : ab_CS G (ab_Z G xs) ab_Mf cal d) : ab_Sd G (ab_Z G xs) (d + 1) (ab_mY mX2_isMissing pX2_isMissing) 12 (bX2_isMissing_1 cal) :=
  sn_iconst dX2_isMissing_12 rfl <| sn_next rfl
set_option maxRecDepth 100000 in
theorem sX2_isMissing_2 {G : ab_G} {xs : List Int32} {d : Nat} {cal : ab_F} (hcs : ab_CS G (ab_Z G xs) ab_Mf cal d) : ab_Sd G (ab_Z G xs) (d + 1) (ab_mY mX2_isMissing pX2_isMissing) 13 (bX2_isMissing_2 cal) :=
  sn_ret dX2_isMissing_13 ab_ri_bool
theorem sX2_isMissing {G : ab_G} {xs : List Int32} {d : Nat} {cal : ab_F} (hcs : ab_CS G (ab_Z G xs) ab_Mf cal d) : ab_BS G (ab_Z G xs) (d + 1) (ab_mY mX2_isMissing pX2_isMissing) pX2_isMissing (bX2_isMissing cal) := ⟨sX2_isMissing_0 hcs, sX2_isMissing_1 hcs, sX2_isMissing_2 hcs, trivial⟩
theorem dgX2_become_0 : decode cX2_become 0 = .ok (.aload_n 0, 1) ∧ decode cX2_become 1 = .ok (.iload_n 1, 1) ∧ decode cX2_become 2 = .ok (.putfield 15, 3) ∧ decode cX2_become 5 = .ok (.aload_n 0, 1) ∧ decode cX2_become 6 = .ok (.iload_n 2, 1) ∧ decode cX2_become 7 = .ok (.putfield 19, 3) ∧ decode cX2_become 10 = .ok (.aload_n 0, 1) ∧ decode cX2_become 11 = .ok (.getfield 9, 3) ∧ decode cX2_become 14 = .ok (.iconst 0, 1) ∧ decode cX2_become 15 = .ok (.invokestatic 22, 3) ∧ decode cX2_become 18 = .ok (.return_, 1) := by decide +kernel
theorem dX2_become_0 : decode cX2_become 0 = .ok (.aload_n 0, 1) := dgX2_become_0.1
theorem dX2_become_1 : decode cX2_become 1 = .ok (.iload_n 1, 1) := dgX2_become_0.2.1
theorem dX2_become_2 : decode cX2_become 2 = .ok (.putfield 15, 3) := dgX2_become_0.2.2.1
theorem dX2_become_5 : decode cX2_become 5 = .ok (.aload_n 0, 1) := dgX2_become_0.2.2.2.1
theorem dX2_become_6 : decode cX2_become 6 = .ok (.iload_n 2, 1) := dgX2_become_0.2.2.2.2.1
theorem dX2_become_7 : decode cX2_become 7 = .ok (.putfield 19, 3) := dgX2_become_0.2.2.2.2.2.1
theorem dX2_become_10 : decode cX2_become 10 = .ok (.aload_n 0, 1) := dgX2_become_0.2.2.2.2.2.2.1
theorem dX2_become_11 : decode cX2_become 11 = .ok (.getfield 9, 3) := dgX2_become_0.2.2.2.2.2.2.2.1
theorem dX2_become_14 : decode cX2_become 14 = .ok (.iconst 0, 1) := dgX2_become_0.2.2.2.2.2.2.2.2.1
theorem dX2_become_15 : decode cX2_become 15 = .ok (.invokestatic 22, 3) := dgX2_become_0.2.2.2.2.2.2.2.2.2.1
theorem dX2_become_18 : decode cX2_become 18 = .ok (.return_, 1) := dgX2_become_0.2.2.2.2.2.2.2.2.2.2
abbrev pX2_become : List Nat := [0]
def bX2_become_0 (cal : ab_F) : ab_K := o_aload 0 <| o_iload 1 <| o_putI 1 1 <| o_aload 0 <| o_iload 2 <| o_putI 1 2 <| o_aload 0 <| o_getf 1 0 <| o_push (.int 0) <| o_callS cal 250 2 <| o_ret none
def bX2_become (cal : ab_F) : List ab_K := [bX2_become_0 cal]
set_option maxRecDepth 100000 in
theorem sX2_become_0 {G : ab_G} {xs : List Int32} {d : Nat} {cal : ab_F} (hcs : ab_CS G (ab_Z G xs) ab_Mf cal d) : ab_Sd G (ab_Z G xs) (d + 1) (ab_mY mX2_become pX2_become) 0 (bX2_become_0 cal) :=
  sn_aload_n dX2_become_0 rfl <| sn_iload_n dX2_become_1 rfl <| sn_putI tyX2 tyX2_ok nmX2 dX2_become_2 rfl hinX2 (by decide) w_244 (Or.inl rfl) (tyX2_ok 1 (by decide)) <| sn_aload_n dX2_become_5 rfl <| sn_iload_n dX2_become_6 rfl <| sn_putI tyX2 tyX2_ok nmX2 dX2_become_7 rfl hinX2 (by decide) w_246 (Or.inl rfl) (tyX2_ok 2 (by decide)) <| sn_aload_n dX2_become_10 rfl <| sn_getf dX2_become_11 rfl hinX2 (by decide) w_241 <| sn_iconst dX2_become_14 rfl <| sq_callS mt_250 hcs dX2_become_15 w_895 w_91 w_57 w_92 hy_250 hm_250 <| sn_ret dX2_become_18 ab_ri_void
theorem sX2_become {G : ab_G} {xs : List Int32} {d : Nat} {cal : ab_F} (hcs : ab_CS G (ab_Z G xs) ab_Mf cal d) : ab_BS G (ab_Z G xs) (d + 1) (ab_mY mX2_become pX2_become) pX2_become (bX2_become cal) := ⟨sX2_become_0 hcs, trivial⟩
theorem dgX2_becomeLike_0 : decode cX2_becomeLike 0 = .ok (.aload_n 0, 1) ∧ decode cX2_becomeLike 1 = .ok (.aload_n 1, 1) ∧ decode cX2_becomeLike 2 = .ok (.getfield 15, 3) ∧ decode cX2_becomeLike 5 = .ok (.putfield 15, 3) ∧ decode cX2_becomeLike 8 = .ok (.aload_n 0, 1) ∧ decode cX2_becomeLike 9 = .ok (.aload_n 1, 1) ∧ decode cX2_becomeLike 10 = .ok (.getfield 19, 3) ∧ decode cX2_becomeLike 13 = .ok (.putfield 19, 3) ∧ decode cX2_becomeLike 16 = .ok (.aload_n 1, 1) ∧ decode cX2_becomeLike 17 = .ok (.getfield 9, 3) ∧ decode cX2_becomeLike 20 = .ok (.iconst 0, 1) ∧ decode cX2_becomeLike 21 = .ok (.aload_n 0, 1) ∧ decode cX2_becomeLike 22 = .ok (.getfield 9, 3) ∧ decode cX2_becomeLike 25 = .ok (.iconst 0, 1) ∧ decode cX2_becomeLike 26 = .ok (.bipush 24, 2) ∧ decode cX2_becomeLike 28 = .ok (.invokestatic 28, 3) := by decide +kernel
theorem dX2_becomeLike_0 : decode cX2_becomeLike 0 = .ok (.aload_n 0, 1) := dgX2_becomeLike_0.1
theorem dX2_becomeLike_1 : decode cX2_becomeLike 1 = .ok (.aload_n 1, 1) := dgX2_becomeLike_0.2.1
theorem dX2_becomeLike_2 : decode cX2_becomeLike 2 = .ok (.getfield 15, 3) := dgX2_becomeLike_0.2.2.1
theorem dX2_becomeLike_5 : decode cX2_becomeLike 5 = .ok (.putfield 15, 3) := dgX2_becomeLike_0.2.2.2.1
theorem dX2_becomeLike_8 : decode cX2_becomeLike 8 = .ok (.aload_n 0, 1) := dgX2_becomeLike_0.2.2.2.2.1
theorem dX2_becomeLike_9 : decode cX2_becomeLike 9 = .ok (.aload_n 1, 1) := dgX2_becomeLike_0.2.2.2.2.2.1
theorem dX2_becomeLike_10 : decode cX2_becomeLike 10 = .ok (.getfield 19, 3) := dgX2_becomeLike_0.2.2.2.2.2.2.1
theorem dX2_becomeLike_13 : decode cX2_becomeLike 13 = .ok (.putfield 19, 3) := dgX2_becomeLike_0.2.2.2.2.2.2.2.1
theorem dX2_becomeLike_16 : decode cX2_becomeLike 16 = .ok (.aload_n 1, 1) := dgX2_becomeLike_0.2.2.2.2.2.2.2.2.1
theorem dX2_becomeLike_17 : decode cX2_becomeLike 17 = .ok (.getfield 9, 3) := dgX2_becomeLike_0.2.2.2.2.2.2.2.2.2.1
theorem dX2_becomeLike_20 : decode cX2_becomeLike 20 = .ok (.iconst 0, 1) := dgX2_becomeLike_0.2.2.2.2.2.2.2.2.2.2.1
theorem dX2_becomeLike_21 : decode cX2_becomeLike 21 = .ok (.aload_n 0, 1) := dgX2_becomeLike_0.2.2.2.2.2.2.2.2.2.2.2.1
theorem dX2_becomeLike_22 : decode cX2_becomeLike 22 = .ok (.getfield 9, 3) := dgX2_becomeLike_0.2.2.2.2.2.2.2.2.2.2.2.2.1
theorem dX2_becomeLike_25 : decode cX2_becomeLike 25 = .ok (.iconst 0, 1) := dgX2_becomeLike_0.2.2.2.2.2.2.2.2.2.2.2.2.2.1
theorem dX2_becomeLike_26 : decode cX2_becomeLike 26 = .ok (.bipush 24, 2) := dgX2_becomeLike_0.2.2.2.2.2.2.2.2.2.2.2.2.2.2.1
theorem dX2_becomeLike_28 : decode cX2_becomeLike 28 = .ok (.invokestatic 28, 3) := dgX2_becomeLike_0.2.2.2.2.2.2.2.2.2.2.2.2.2.2.2
theorem dX2_becomeLike_31 : decode cX2_becomeLike 31 = .ok (.return_, 1) := by decide +kernel
abbrev pX2_becomeLike : List Nat := [0]
def bX2_becomeLike_0 (cal : ab_F) : ab_K := o_aload 0 <| o_aload 1 <| o_getf 1 1 <| o_putI 1 1 <| o_aload 0 <| o_aload 1 <| o_getf 1 2 <| o_putI 1 2 <| o_aload 1 <| o_getf 1 0 <| o_push (.int 0) <| o_aload 0 <| o_getf 1 0 <| o_push (.int 0) <| o_push (.int 24) <| o_acopy <| o_ret none
def bX2_becomeLike (cal : ab_F) : List ab_K := [bX2_becomeLike_0 cal]
set_option maxRecDepth 100000 in
theorem sX2_becomeLike_0 {G : ab_G} {xs : List Int32} {d : Nat} {cal : ab_F} (hcs : ab_CS G (ab_Z G xs) ab_Mf cal d) : ab_Sd G (ab_Z G xs) (d + 1) (ab_mY mX2_becomeLike pX2_becomeLike) 0 (bX2_becomeLike_0 cal) :=
  sn_aload_n dX2_becomeLike_0 rfl <| sn_aload_n dX2_becomeLike_1 rfl <| sn_getf dX2_becomeLike_2 rfl hinX2 (by decide) w_244 <| sn_putI tyX2 tyX2_ok nmX2 dX2_becomeLike_5 rfl hinX2 (by decide) w_244 (Or.inl rfl) (tyX2_ok 1 (by decide)) <| sn_aload_n dX2_becomeLike_8 rfl <| sn_aload_n dX2_becomeLike_9 rfl <| sn_getf dX2_becomeLike_10 rfl hinX2 (by decide) w_246 <| sn_putI tyX2 tyX2_ok nmX2 dX2_becomeLike_13 rfl hinX2 (by decide) w_246 (Or.inl rfl) (tyX2_ok 2 (by decide)) <| sn_aload_n dX2_becomeLike_16 rfl <| sn_getf dX2_becomeLike_17 rfl hinX2 (by decide) w_241 <| sn_iconst dX2_becomeLike_20 rfl <| sn_aload_n dX2_becomeLike_21 rfl <| sn_getf dX2_becomeLike_22 rfl hinX2 (by decide) w_241 <| sn_iconst dX2_becomeLike_25 rfl <| sn_bipush dX2_becomeLike_26 rfl <| sn_acopy (Nat.le_add_left 1 _) dX2_becomeLike_28 w_942 w_595 w_594 w_68 <| sn_ret dX2_becomeLike_31 ab_ri_void
theorem sX2_becomeLike {G : ab_G} {xs : List Int32} {d : Nat} {cal : ab_F} (hcs : ab_CS G (ab_Z G xs) ab_Mf cal d) : ab_BS G (ab_Z G xs) (d + 1) (ab_mY mX2_becomeLike pX2_becomeLike) pX2_becomeLike (bX2_becomeLike cal) := ⟨sX2_becomeLike_0 hcs, trivial⟩
theorem dgX2_write_0 : decode cX2_write 0 = .ok (.aload_n 0, 1) ∧ decode cX2_write 1 = .ok (.getfield 9, 3) ∧ decode cX2_write 4 = .ok (.iload_n 1, 1) ∧ decode cX2_write 5 = .ok (.iload_n 2, 1) ∧ decode cX2_write 6 = .ok (.iastore, 1) ∧ decode cX2_write 7 = .ok (.iconst 1, 1) ∧ decode cX2_write 8 = .ok (.ireturn, 1) := by decide +kernel
theorem dX2_write_0 : decode cX2_write 0 = .ok (.aload_n 0, 1) := dgX2_write_0.1
theorem dX2_write_1 : decode cX2_write 1 = .ok (.getfield 9, 3) := dgX2_write_0.2.1
theorem dX2_write_4 : decode cX2_write 4 = .ok (.iload_n 1, 1) := dgX2_write_0.2.2.1
theorem dX2_write_5 : decode cX2_write 5 = .ok (.iload_n 2, 1) := dgX2_write_0.2.2.2.1
theorem dX2_write_6 : decode cX2_write 6 = .ok (.iastore, 1) := dgX2_write_0.2.2.2.2.1
theorem dX2_write_7 : decode cX2_write 7 = .ok (.iconst 1, 1) := dgX2_write_0.2.2.2.2.2.1
theorem dX2_write_8 : decode cX2_write 8 = .ok (.ireturn, 1) := dgX2_write_0.2.2.2.2.2.2
abbrev pX2_write : List Nat := [0]
def bX2_write_0 (cal : ab_F) : ab_K := o_aload 0 <| o_getf 1 0 <| o_iload 1 <| o_iload 2 <| o_iast 0 (fun x => x) <| o_push (.int 1) <| o_ret (some .int)
def bX2_write (cal : ab_F) : List ab_K := [bX2_write_0 cal]
set_option maxRecDepth 100000 in
theorem sX2_write_0 {G : ab_G} {xs : List Int32} {d : Nat} {cal : ab_F} (hcs : ab_CS G (ab_Z G xs) ab_Mf cal d) : ab_Sd G (ab_Z G xs) (d + 1) (ab_mY mX2_write pX2_write) 0 (bX2_write_0 cal) :=
  sn_aload_n dX2_write_0 rfl <| sn_getf dX2_write_1 rfl hinX2 (by decide) w_241 <| sn_iload_n dX2_write_4 rfl <| sn_iload_n dX2_write_5 rfl <| sn_iast dX2_write_6 rfl rfl <| sn_iconst dX2_write_7 rfl <| sn_ret dX2_write_8 ab_ri_int
theorem sX2_write {G : ab_G} {xs : List Int32} {d : Nat} {cal : ab_F} (hcs : ab_CS G (ab_Z G xs) ab_Mf cal d) : ab_BS G (ab_Z G xs) (d + 1) (ab_mY mX2_write pX2_write) pX2_write (bX2_write cal) := ⟨sX2_write_0 hcs, trivial⟩
theorem dgX2_isNumber_0 : decode cX2_isNumber 0 = .ok (.iload_n 1, 1) ∧ decode cX2_isNumber 1 = .ok (.iconst 0, 1) ∧ decode cX2_isNumber 2 = .ok (.aload_n 0, 1) ∧ decode cX2_isNumber 3 = .ok (.getfield 19, 3) ∧ decode cX2_isNumber 6 = .ok (.iconst 1, 1) ∧ decode cX2_isNumber 7 = .ok (.isub, 1) ∧ decode cX2_isNumber 8 = .ok (.invokestatic 34, 3) ∧ decode cX2_isNumber 11 = .ok (.ifCond .eq 18, 3) ∧ decode cX2_isNumber 14 = .ok (.aload_n 0, 1) ∧ decode cX2_isNumber 15 = .ok (.getfield 9, 3) ∧ decode cX2_isNumber 18 = .ok (.iload_n 1, 1) ∧ decode cX2_isNumber 19 = .ok (.iaload, 1) ∧ decode cX2_isNumber 20 = .ok (.ldc 38, 2) ∧ decode cX2_isNumber 22 = .ok (.if_icmp .eq 7, 3) ∧ decode cX2_isNumber 25 = .ok (.iconst 1, 1) ∧ decode cX2_isNumber 26 = .ok (.goto 4, 3) := by decide +kernel
theorem dX2_isNumber_0 : decode cX2_isNumber 0 = .ok (.iload_n 1, 1) := dgX2_isNumber_0.1
theorem dX2_isNumber_1 : decode cX2_isNumber 1 = .ok (.iconst 0, 1) := dgX2_isNumber_0.2.1
theorem dX2_isNumber_2 : decode cX2_isNumber 2 = .ok (.aload_n 0, 1) := dgX2_isNumber_0.2.2.1
theorem dX2_isNumber_3 : decode cX2_isNumber 3 = .ok (.getfield 19, 3) := dgX2_isNumber_0.2.2.2.1
theorem dX2_isNumber_6 : decode cX2_isNumber 6 = .ok (.iconst 1, 1) := dgX2_isNumber_0.2.2.2.2.1
theorem dX2_isNumber_7 : decode cX2_isNumber 7 = .ok (.isub, 1) := dgX2_isNumber_0.2.2.2.2.2.1
theorem dX2_isNumber_8 : decode cX2_isNumber 8 = .ok (.invokestatic 34, 3) := dgX2_isNumber_0.2.2.2.2.2.2.1
theorem dX2_isNumber_11 : decode cX2_isNumber 11 = .ok (.ifCond .eq 18, 3) := dgX2_isNumber_0.2.2.2.2.2.2.2.1
theorem dX2_isNumber_14 : decode cX2_isNumber 14 = .ok (.aload_n 0, 1) := dgX2_isNumber_0.2.2.2.2.2.2.2.2.1
theorem dX2_isNumber_15 : decode cX2_isNumber 15 = .ok (.getfield 9, 3) := dgX2_isNumber_0.2.2.2.2.2.2.2.2.2.1
theorem dX2_isNumber_18 : decode cX2_isNumber 18 = .ok (.iload_n 1, 1) := dgX2_isNumber_0.2.2.2.2.2.2.2.2.2.2.1
theorem dX2_isNumber_19 : decode cX2_isNumber 19 = .ok (.iaload, 1) := dgX2_isNumber_0.2.2.2.2.2.2.2.2.2.2.2.1
theorem dX2_isNumber_20 : decode cX2_isNumber 20 = .ok (.ldc 38, 2) := dgX2_isNumber_0.2.2.2.2.2.2.2.2.2.2.2.2.1
theorem dX2_isNumber_22 : decode cX2_isNumber 22 = .ok (.if_icmp .eq 7, 3) := dgX2_isNumber_0.2.2.2.2.2.2.2.2.2.2.2.2.2.1
theorem dX2_isNumber_25 : decode cX2_isNumber 25 = .ok (.iconst 1, 1) := dgX2_isNumber_0.2.2.2.2.2.2.2.2.2.2.2.2.2.2.1
theorem dX2_isNumber_26 : decode cX2_isNumber 26 = .ok (.goto 4, 3) := dgX2_isNumber_0.2.2.2.2.2.2.2.2.2.2.2.2.2.2.2
theorem dgX2_isNumber_1 : decode cX2_isNumber 29 = .ok (.iconst 0, 1) ∧ decode cX2_isNumber 30 = .ok (.ireturn, 1) := by decide +kernel
theorem dX2_isNumber_29 : decode cX2_isNumber 29 = .ok (.iconst 0, 1) := dgX2_isNumber_1.1
theorem dX2_isNumber_30 : decode cX2_isNumber 30 = .ok (.ireturn, 1) := dgX2_isNumber_1.2
abbrev pX2_isNumber : List Nat := [0, 29, 30]
def bX2_isNumber_0 (cal : ab_F) : ab_K := o_iload 1 <| o_push (.int 0) <| o_aload 0 <| o_getf 1 2 <| o_push (.int 1) <| o_bin (fun x y => x - y) <| o_callS cal 123 3 <| o_if (fun x => decide (x = 0)) 1 <| o_aload 0 <| o_getf 1 0 <| o_iload 1 <| o_iald 0 <| o_push (.int (-1000000005)) <| o_cmp (fun x y => decide (x = y)) 1 <| o_push (.int 1) <| o_goto 2
def bX2_isNumber_1 (cal : ab_F) : ab_K := o_push (.int 0) <| o_goto 2
def bX2_isNumber_2 (cal : ab_F) : ab_K := o_ret (some .boolean)
def bX2_isNumber (cal : ab_F) : List ab_K := [bX2_isNumber_0 cal, bX2_isNumber_1 cal, bX2_isNumber_2 cal]
set_option maxRecDepth 100000 in
theorem sX2_isNumber_0 {G : ab_G} {xs : List Int32} {d : Nat} {cal : ab_F} (hcs : ab_CS G (ab_Z G xs) ab_Mf cal d) : ab_Sd G (ab_Z G xs) (d + 1) (ab_mY mX2_isNumber pX2_isNumber) 0 (bX2_isNumber_0 cal) :=
  sn_iload_n dX2_isNumber_0 rfl <| sn_iconst dX2_isNumber_1 rfl <| sn_aload_n dX2_isNumber_2 rfl <| sn_getf dX2_isNumber_3 rfl hinX2 (by decide) w_246 <| sn_iconst dX2_isNumber_6 rfl <| sn_isub dX2_isNumber_7 <| sq_callSN mt_123 hcs dX2_isNumber_8 zn_7 w_321 w_55 w_322 hy_123 hm_123 <| sn_if_eq (tg := 29) dX2_isNumber_11 rfl rfl <| sn_aload_n dX2_isNumber_14 rfl <| sn_getf dX2_isNumber_15 rfl hinX2 (by decide) w_241 <| sn_iload_n dX2_isNumber_18 rfl <| sn_iald dX2_isNumber_19 rfl <| sn_ldc dX2_isNumber_20 w_638 <| sn_cmp_eq (tg := 29) dX2_isNumber_22 rfl rfl <| sn_iconst dX2_isNumber_25 rfl <| sn_goto (tg := 30) dX2_isNumber_26 rfl rfl
set_option maxRecDepth 100000 in
theorem sX2_isNumber_1 {G : ab_G} {xs : List Int32} {d : Nat} {cal : ab_F} (hcs : ab_CS G (ab_Z G xs) ab_Mf cal d) : ab_Sd G (ab_Z G xs) (d + 1) (ab_mY mX2_isNumber pX2_isNumber) 29 (bX2_isNumber_1 cal) :=
  sn_iconst dX2_isNumber_29 rfl <| sn_next rfl
set_option maxRecDepth 100000 in
theorem sX2_isNumber_2 {G : ab_G} {xs : List Int32} {d : Nat} {cal : ab_F} (hcs : ab_CS G (ab_Z G xs) ab_Mf cal d) : ab_Sd G (ab_Z G xs) (d + 1) (ab_mY mX2_isNumber pX2_isNumber) 30 (bX2_isNumber_2 cal) :=
  sn_ret dX2_isNumber_30 ab_ri_bool
theorem sX2_isNumber {G : ab_G} {xs : List Int32} {d : Nat} {cal : ab_F} (hcs : ab_CS G (ab_Z G xs) ab_Mf cal d) : ab_BS G (ab_Z G xs) (d + 1) (ab_mY mX2_isNumber pX2_isNumber) pX2_isNumber (bX2_isNumber cal) := ⟨sX2_isNumber_0 hcs, sX2_isNumber_1 hcs, sX2_isNumber_2 hcs, trivial⟩
theorem dgX2_hasPlaces_0 : decode cX2_hasPlaces 0 = .ok (.iload_n 1, 1) ∧ decode cX2_hasPlaces 1 = .ok (.iconst 0, 1) ∧ decode cX2_hasPlaces 2 = .ok (.aload_n 0, 1) ∧ decode cX2_hasPlaces 3 = .ok (.getfield 19, 3) ∧ decode cX2_hasPlaces 6 = .ok (.invokestatic 34, 3) ∧ decode cX2_hasPlaces 9 = .ok (.ifCond .eq 21, 3) ∧ decode cX2_hasPlaces 12 = .ok (.iload_n 2, 1) ∧ decode cX2_hasPlaces 13 = .ok (.iconst 0, 1) ∧ decode cX2_hasPlaces 14 = .ok (.aload_n 0, 1) ∧ decode cX2_hasPlaces 15 = .ok (.getfield 19, 3) ∧ decode cX2_hasPlaces 18 = .ok (.iload_n 1, 1) ∧ decode cX2_hasPlaces 19 = .ok (.isub, 1) ∧ decode cX2_hasPlaces 20 = .ok (.invokestatic 34, 3) ∧ decode cX2_hasPlaces 23 = .ok (.ifCond .eq 7, 3) ∧ decode cX2_hasPlaces 26 = .ok (.iconst 1, 1) ∧ decode cX2_hasPlaces 27 = .ok (.goto 4, 3) := by decide +kernel
theorem dX2_hasPlaces_0 : decode cX2_hasPlaces 0 = .ok (.iload_n 1, 1) := dgX2_hasPlaces_0.1
theorem dX2_hasPlaces_1 : decode cX2_hasPlaces 1 = .ok (.iconst 0, 1) := dgX2_hasPlaces_0.2.1
theorem dX2_hasPlaces_2 : decode cX2_hasPlaces 2 = .ok (.aload_n 0, 1) := dgX2_hasPlaces_0.2.2.1
theorem dX2_hasPlaces_3 : decode cX2_hasPlaces 3 = .ok (.getfield 19, 3) := dgX2_hasPlaces_0.2.2.2.1
theorem dX2_hasPlaces_6 : decode cX2_hasPlaces 6 = .ok (.invokestatic 34, 3) := dgX2_hasPlaces_0.2.2.2.2.1
theorem dX2_hasPlaces_9 : decode cX2_hasPlaces 9 = .ok (.ifCond .eq 21, 3) := dgX2_hasPlaces_0.2.2.2.2.2.1
theorem dX2_hasPlaces_12 : decode cX2_hasPlaces 12 = .ok (.iload_n 2, 1) := dgX2_hasPlaces_0.2.2.2.2.2.2.1
theorem dX2_hasPlaces_13 : decode cX2_hasPlaces 13 = .ok (.iconst 0, 1) := dgX2_hasPlaces_0.2.2.2.2.2.2.2.1
theorem dX2_hasPlaces_14 : decode cX2_hasPlaces 14 = .ok (.aload_n 0, 1) := dgX2_hasPlaces_0.2.2.2.2.2.2.2.2.1
theorem dX2_hasPlaces_15 : decode cX2_hasPlaces 15 = .ok (.getfield 19, 3) := dgX2_hasPlaces_0.2.2.2.2.2.2.2.2.2.1
theorem dX2_hasPlaces_18 : decode cX2_hasPlaces 18 = .ok (.iload_n 1, 1) := dgX2_hasPlaces_0.2.2.2.2.2.2.2.2.2.2.1
theorem dX2_hasPlaces_19 : decode cX2_hasPlaces 19 = .ok (.isub, 1) := dgX2_hasPlaces_0.2.2.2.2.2.2.2.2.2.2.2.1
theorem dX2_hasPlaces_20 : decode cX2_hasPlaces 20 = .ok (.invokestatic 34, 3) := dgX2_hasPlaces_0.2.2.2.2.2.2.2.2.2.2.2.2.1
theorem dX2_hasPlaces_23 : decode cX2_hasPlaces 23 = .ok (.ifCond .eq 7, 3) := dgX2_hasPlaces_0.2.2.2.2.2.2.2.2.2.2.2.2.2.1
theorem dX2_hasPlaces_26 : decode cX2_hasPlaces 26 = .ok (.iconst 1, 1) := dgX2_hasPlaces_0.2.2.2.2.2.2.2.2.2.2.2.2.2.2.1
theorem dX2_hasPlaces_27 : decode cX2_hasPlaces 27 = .ok (.goto 4, 3) := dgX2_hasPlaces_0.2.2.2.2.2.2.2.2.2.2.2.2.2.2.2
theorem dgX2_hasPlaces_1 : decode cX2_hasPlaces 30 = .ok (.iconst 0, 1) ∧ decode cX2_hasPlaces 31 = .ok (.ireturn, 1) := by decide +kernel
theorem dX2_hasPlaces_30 : decode cX2_hasPlaces 30 = .ok (.iconst 0, 1) := dgX2_hasPlaces_1.1
theorem dX2_hasPlaces_31 : decode cX2_hasPlaces 31 = .ok (.ireturn, 1) := dgX2_hasPlaces_1.2
abbrev pX2_hasPlaces : List Nat := [0, 30, 31]
def bX2_hasPlaces_0 (cal : ab_F) : ab_K := o_iload 1 <| o_push (.int 0) <| o_aload 0 <| o_getf 1 2 <| o_callS cal 123 3 <| o_if (fun x => decide (x = 0)) 1 <| o_iload 2 <| o_push (.int 0) <| o_aload 0 <| o_getf 1 2 <| o_iload 1 <| o_bin (fun x y => x - y) <| o_callS cal 123 3 <| o_if (fun x => decide (x = 0)) 1 <| o_push (.int 1) <| o_goto 2
def bX2_hasPlaces_1 (cal : ab_F) : ab_K := o_push (.int 0) <| o_goto 2
def bX2_hasPlaces_2 (cal : ab_F) : ab_K := o_ret (some .boolean)
def bX2_hasPlaces (cal : ab_F) : List ab_K := [bX2_hasPlaces_0 cal, bX2_hasPlaces_1 cal, bX2_hasPlaces_2 cal]
set_option maxRecDepth 100000 in
theorem sX2_hasPlaces_0 {G : ab_G} {xs : List Int32} {d : Nat} {cal : ab_F} (hcs : ab_CS G (ab_Z G xs) ab_Mf cal d) : ab_Sd G (ab_Z G xs) (d + 1) (ab_mY mX2_hasPlaces pX2_hasPlaces) 0 (bX2_hasPlaces_0 cal) :=
  sn_iload_n dX2_hasPlaces_0 rfl <| sn_iconst dX2_hasPlaces_1 rfl <| sn_aload_n dX2_hasPlaces_2 rfl <| sn_getf dX2_hasPlaces_3 rfl hinX2 (by decide) w_246 <| sq_callSN mt_123 hcs dX2_hasPlaces_6 zn_7 w_321 w_55 w_322 hy_123 hm_123 <| sn_if_eq (tg := 30) dX2_hasPlaces_9 rfl rfl <| sn_iload_n dX2_hasPlaces_12 rfl <| sn_iconst dX2_hasPlaces_13 rfl <| sn_aload_n dX2_hasPlaces_14 rfl <| sn_getf dX2_hasPlaces_15 rfl hinX2 (by decide) w_246 <| sn_iload_n dX2_hasPlaces_18 rfl <| sn_isub dX2_hasPlaces_19 <| sq_callSN mt_123 hcs dX2_hasPlaces_20 zn_7 w_321 w_55 w_322 hy_123 hm_123 <| sn_if_eq (tg := 30) dX2_hasPlaces_23 rfl rfl <| sn_iconst dX2_hasPlaces_26 rfl <| sn_goto (tg := 31) dX2_hasPlaces_27 rfl rfl
set_option maxRecDepth 100000 in
theorem sX2_hasPlaces_1 {G : ab_G} {xs : List Int32} {d : Nat} {cal : ab_F} (hcs : ab_CS G (ab_Z G xs) ab_Mf cal d) : ab_Sd G (ab_Z G xs) (d + 1) (ab_mY mX2_hasPlaces pX2_hasPlaces) 30 (bX2_hasPlaces_1 cal) :=
  sn_iconst dX2_hasPlaces_30 rfl <| sn_next rfl
set_option maxRecDepth 100000 in
theorem sX2_hasPlaces_2 {G : ab_G} {xs : List Int32} {d : Nat} {cal : ab_F} (hcs : ab_CS G (ab_Z G xs) ab_Mf cal d) : ab_Sd G (ab_Z G xs) (d + 1) (ab_mY mX2_hasPlaces pX2_hasPlaces) 31 (bX2_hasPlaces_2 cal) :=
  sn_ret dX2_hasPlaces_31 ab_ri_bool
theorem sX2_hasPlaces {G : ab_G} {xs : List Int32} {d : Nat} {cal : ab_F} (hcs : ab_CS G (ab_Z G xs) ab_Mf cal d) : ab_BS G (ab_Z G xs) (d + 1) (ab_mY mX2_hasPlaces pX2_hasPlaces) pX2_hasPlaces (bX2_hasPlaces cal) := ⟨sX2_hasPlaces_0 hcs, sX2_hasPlaces_1 hcs, sX2_hasPlaces_2 hcs, trivial⟩
