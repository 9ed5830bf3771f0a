theorem dgX5_init_0 : decode cX5_init 0 = .ok (.aload_n 0, 1) ∧ decode cX5_init 1 = .ok (.invokespecial 3, 3) ∧ decode cX5_init 4 = .ok (.aload_n 0, 1) ∧ decode cX5_init 5 = .ok (.bipush 96, 2) ∧ decode cX5_init 7 = .ok (.newarray .int, 2) ∧ decode cX5_init 9 = .ok (.putfield 9, 3) ∧ decode cX5_init 12 = .ok (.return_, 1) := by decide +kernel
theorem dX5_init_0 : decode cX5_init 0 = .ok (.aload_n 0, 1) := dgX5_init_0.1
theorem dX5_init_1 : decode cX5_init 1 = .ok (.invokespecial 3, 3) := dgX5_init_0.2.1
theorem dX5_init_4 : decode cX5_init 4 = .ok (.aload_n 0, 1) := dgX5_init_0.2.2.1
theorem dX5_init_5 : decode cX5_init 5 = .ok (.bipush 96, 2) := dgX5_init_0.2.2.2.1
theorem dX5_init_7 : decode cX5_init 7 = .ok (.newarray .int, 2) := dgX5_init_0.2.2.2.2.1
theorem dX5_init_9 : decode cX5_init 9 = .ok (.putfield 9, 3) := dgX5_init_0.2.2.2.2.2.1
theorem dX5_init_12 : decode cX5_init 12 = .ok (.return_, 1) := dgX5_init_0.2.2.2.2.2.2
abbrev pX5_init : List Nat := [0]
def bX5_init_0 (cal : ab_F) : ab_K := o_aload 0 <| o_oinit <| o_aload 0 <| o_push (.int 96) <| o_newi 0 <| o_putA 4 0 <| o_ret none
def bX5_init (cal : ab_F) : List ab_K := [bX5_init_0 cal]
set_option maxRecDepth 100000 in
theorem sX5_init_0 {G : ab_G} {xs : List Int32} {d : Nat} {cal : ab_F} (hcs : ab_CS G (ab_Z G xs) ab_Mf cal d) : ab_Sd G (ab_Z G xs) (d + 1) (ab_mY mX5_init pX5_init) 0 (bX5_init_0 cal) :=
  sn_aload_n dX5_init_0 rfl <| sn_oinit (Nat.le_add_left 1 _) dX5_init_1 w_178 w_80 w_81 <| sn_aload_n dX5_init_4 rfl <| sn_bipush dX5_init_5 rfl <| sn_newi dX5_init_7 rfl w_154 rfl (fun _ _ h => h) rfl (by decide) <| sn_putA tyX5 tyX5_ok nmX5 dX5_init_9 rfl hinX5 (by decide) w_179 (Or.inr ⟨rfl, rfl, rfl⟩) (tyX5_ok 0 (by decide)) (fun _ => ⟨rfl, rfl⟩) ⟨rfl, rfl⟩ <| sn_ret dX5_init_12 ab_ri_void
theorem sX5_init {G : ab_G} {xs : List Int32} {d : Nat} {cal : ab_F} (hcs : ab_CS G (ab_Z G xs) ab_Mf cal d) : ab_BS G (ab_Z G xs) (d + 1) (ab_mY mX5_init pX5_init) pX5_init (bX5_init cal) := ⟨sX5_init_0 hcs, trivial⟩
theorem dgX5_add_0 : decode cX5_add 0 = .ok (.bipush 24, 2) ∧ decode cX5_add 2 = .ok (.istore_n 2, 1) ∧ decode cX5_add 3 = .ok (.iload_n 2, 1) ∧ decode cX5_add 4 = .ok (.ifCond .lt 44, 3) ∧ decode cX5_add 7 = .ok (.aload_n 0, 1) ∧ decode cX5_add 8 = .ok (.getfield 15, 3) ∧ decode cX5_add 11 = .ok (.bipush 96, 2) ∧ decode cX5_add 13 = .ok (.if_icmp .ge 35, 3) ∧ decode cX5_add 16 = .ok (.aload_n 0, 1) ∧ decode cX5_add 17 = .ok (.getfield 9, 3) ∧ decode cX5_add 20 = .ok (.aload_n 0, 1) ∧ decode cX5_add 21 = .ok (.getfield 15, 3) ∧ decode cX5_add 24 = .ok (.iload_n 1, 1) ∧ decode cX5_add 25 = .ok (.iload_n 2, 1) ∧ decode cX5_add 26 = .ok (.iushr, 1) ∧ decode cX5_add 27 = .ok (.sipush 255, 3) := by decide +kernel
theorem dX5_add_0 : decode cX5_add 0 = .ok (.bipush 24, 2) := dgX5_add_0.1
theorem dX5_add_2 : decode cX5_add 2 = .ok (.istore_n 2, 1) := dgX5_add_0.2.1
theorem dX5_add_3 : decode cX5_add 3 = .ok (.iload_n 2, 1) := dgX5_add_0.2.2.1
theorem dX5_add_4 : decode cX5_add 4 = .ok (.ifCond .lt 44, 3) := dgX5_add_0.2.2.2.1
theorem dX5_add_7 : decode cX5_add 7 = .ok (.aload_n 0, 1) := dgX5_add_0.2.2.2.2.1
theorem dX5_add_8 : decode cX5_add 8 = .ok (.getfield 15, 3) := dgX5_add_0.2.2.2.2.2.1
theorem dX5_add_11 : decode cX5_add 11 = .ok (.bipush 96, 2) := dgX5_add_0.2.2.2.2.2.2.1
theorem dX5_add_13 : decode cX5_add 13 = .ok (.if_icmp .ge 35, 3) := dgX5_add_0.2.2.2.2.2.2.2.1
theorem dX5_add_16 : decode cX5_add 16 = .ok (.aload_n 0, 1) := dgX5_add_0.2.2.2.2.2.2.2.2.1
theorem dX5_add_17 : decode cX5_add 17 = .ok (.getfield 9, 3) := dgX5_add_0.2.2.2.2.2.2.2.2.2.1
theorem dX5_add_20 : decode cX5_add 20 = .ok (.aload_n 0, 1) := dgX5_add_0.2.2.2.2.2.2.2.2.2.2.1
theorem dX5_add_21 : decode cX5_add 21 = .ok (.getfield 15, 3) := dgX5_add_0.2.2.2.2.2.2.2.2.2.2.2.1
theorem dX5_add_24 : decode cX5_add 24 = .ok (.iload_n 1, 1) := dgX5_add_0.2.2.2.2.2.2.2.2.2.2.2.2.1
theorem dX5_add_25 : decode cX5_add 25 = .ok (.iload_n 2, 1) := dgX5_add_0.2.2.2.2.2.2.2.2.2.2.2.2.2.1
theorem dX5_add_26 : decode cX5_add 26 = .ok (.iushr, 1) := dgX5_add_0.2.2.2.2.2.2.2.2.2.2.2.2.2.2.1
theorem dX5_add_27 : decode cX5_add 27 = .ok (.sipush 255, 3) := dgX5_add_0.2.2.2.2.2.2.2.2.2.2.2.2.2.2.2
theorem dgX5_add_1 : decode cX5_add 30 = .ok (.iand, 1) ∧ decode cX5_add 31 = .ok (.iastore, 1) ∧ decode cX5_add 32 = .ok (.aload_n 0, 1) ∧ decode cX5_add 33 = .ok (.dup, 1) ∧ decode cX5_add 34 = .ok (.getfield 15, 3) ∧ decode cX5_add 37 = .ok (.iconst 1, 1) ∧ decode cX5_add 38 = .ok (.iadd, 1) ∧ decode cX5_add 39 = .ok (.putfield 15, 3) ∧ decode cX5_add 42 = .ok (.iinc 2 (-8), 3) ∧ decode cX5_add 45 = .ok (.goto (-42), 3) ∧ decode cX5_add 48 = .ok (.return_, 1) := by decide +kernel
theorem dX5_add_30 : decode cX5_add 30 = .ok (.iand, 1) := dgX5_add_1.1
theorem dX5_add_31 : decode cX5_add 31 = .ok (.iastore, 1) := dgX5_add_1.2.1
theorem dX5_add_32 : decode cX5_add 32 = .ok (.aload_n 0, 1) := dgX5_add_1.2.2.1
theorem dX5_add_33 : decode cX5_add 33 = .ok (.dup, 1) := dgX5_add_1.2.2.2.1
theorem dX5_add_34 : decode cX5_add 34 = .ok (.getfield 15, 3) := dgX5_add_1.2.2.2.2.1
theorem dX5_add_37 : decode cX5_add 37 = .ok (.iconst 1, 1) := dgX5_add_1.2.2.2.2.2.1
theorem dX5_add_38 : decode cX5_add 38 = .ok (.iadd, 1) := dgX5_add_1.2.2.2.2.2.2.1
theorem dX5_add_39 : decode cX5_add 39 = .ok (.putfield 15, 3) := dgX5_add_1.2.2.2.2.2.2.2.1
theorem dX5_add_42 : decode cX5_add 42 = .ok (.iinc 2 (-8), 3) := dgX5_add_1.2.2.2.2.2.2.2.2.1
theorem dX5_add_45 : decode cX5_add 45 = .ok (.goto (-42), 3) := dgX5_add_1.2.2.2.2.2.2.2.2.2.1
theorem dX5_add_48 : decode cX5_add 48 = .ok (.return_, 1) := dgX5_add_1.2.2.2.2.2.2.2.2.2.2
abbrev pX5_add : List Nat := [0, 3, 48]
def bX5_add_0 (cal : ab_F) : ab_K := o_push (.int 24) <| o_istore 2 <| o_goto 1
def bX5_add_1 (cal : ab_F) : ab_K := o_iload 2 <| o_if (fun x => decide (x < 0)) 2 <| o_aload 0 <| o_getf 4 1 <| o_push (.int 96) <| o_cmp (fun x y => decide (y ≤ x)) 2 <| o_aload 0 <| o_getf 4 0 <| o_aload 0 <| o_getf 4 1 <| o_iload 1 <| o_iload 2 <| o_bin (fun x y => (x.toUInt32 >>> (y.toUInt32 &&& Int32.toUInt32 31)).toInt32) <| o_push (.int 255) <| o_bin (fun x y => x &&& y) <| o_iast 0 (fun x => x) <| o_aload 0 <| o_dup <| o_getf 4 1 <| o_push (.int 1) <| o_bin (fun x y => x + y) <| o_putI 4 1 <| o_iinc 2 (-8) <| o_goto 1
def bX5_add_2 (cal : ab_F) : ab_K := o_ret none
def bX5_add (cal : ab_F) : List ab_K := [bX5_add_0 cal, bX5_add_1 cal, bX5_add_2 cal]
set_option maxRecDepth 100000 in
theorem sX5_add_0 {G : ab_G} {xs : List Int32} {d : Nat} {cal : ab_F} (hcs : ab_CS G (ab_Z G xs) ab_Mf cal d) : ab_Sd G (ab_Z G xs) (d + 1) (ab_mY mX5_add pX5_add) 0 (bX5_add_0 cal) :=
  sn_bipush dX5_add_0 rfl <| sn_istore_n dX5_add_2 rfl (by decide) <| sn_next rfl
set_option maxRecDepth 100000 in
theorem sX5_add_1 {G : ab_G} {xs : List Int32} {d : Nat} {cal : ab_F} (hcs : ab_CS G (ab_Z G xs) ab_Mf cal d) : ab_Sd G (ab_Z G xs) (d + 1) (ab_mY mX5_add pX5_add) 3 (bX5_add_1 cal) :=
  sn_iload_n dX5_add_3 rfl <| sn_if_lt (tg := 48) dX5_add_4 rfl rfl <| sn_aload_n dX5_add_7 rfl <| sn_getf dX5_add_8 rfl hinX5 (by decide) w_181 <| sn_bipush dX5_add_11 rfl <| sn_cmp_ge (tg := 48) dX5_add_13 rfl rfl <| sn_aload_n dX5_add_16 rfl <| sn_getf dX5_add_17 rfl hinX5 (by decide) w_179 <| sn_aload_n dX5_add_20 rfl <| sn_getf dX5_add_21 rfl hinX5 (by decide) w_181 <| sn_iload_n dX5_add_24 rfl <| sn_iload_n dX5_add_25 rfl <| sn_iushr dX5_add_26 <| sn_sipush dX5_add_27 rfl <| sn_iand dX5_add_30 <| sn_iast dX5_add_31 rfl rfl <| sn_aload_n dX5_add_32 rfl <| sn_dup dX5_add_33 <| sn_getf dX5_add_34 rfl hinX5 (by decide) w_181 <| sn_iconst dX5_add_37 rfl <| sn_iadd dX5_add_38 <| sn_putI tyX5 tyX5_ok nmX5 dX5_add_39 rfl hinX5 (by decide) w_181 (Or.inl rfl) (tyX5_ok 1 (by decide)) <| sn_iinc dX5_add_42 rfl (by decide) <| sn_goto (tg := 3) dX5_add_45 rfl rfl
set_option maxRecDepth 100000 in
theorem sX5_add_2 {G : ab_G} {xs : List Int32} {d : Nat} {cal : ab_F} (hcs : ab_CS G (ab_Z G xs) ab_Mf cal d) : ab_Sd G (ab_Z G xs) (d + 1) (ab_mY mX5_add pX5_add) 48 (bX5_add_2 cal) :=
  sn_ret dX5_add_48 ab_ri_void
theorem sX5_add {G : ab_G} {xs : List Int32} {d : Nat} {cal : ab_F} (hcs : ab_CS G (ab_Z G xs) ab_Mf cal d) : ab_BS G (ab_Z G xs) (d + 1) (ab_mY mX5_add pX5_add) pX5_add (bX5_add cal) := ⟨sX5_add_0 hcs, sX5_add_1 hcs, sX5_add_2 hcs, trivial⟩
