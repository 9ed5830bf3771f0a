theorem dgX3_init_0 : decode cX3_init 0 = .ok (.aload_n 0, 1) ∧ decode cX3_init 1 = .ok (.invokespecial 1, 3) ∧ decode cX3_init 4 = .ok (.aload_n 0, 1) ∧ decode cX3_init 5 = .ok (.new 7, 3) ∧ decode cX3_init 8 = .ok (.dup, 1) ∧ decode cX3_init 9 = .ok (.invokespecial 9, 3) ∧ decode cX3_init 12 = .ok (.putfield 10, 3) ∧ decode cX3_init 15 = .ok (.return_, 1) := by decide +kernel
theorem dX3_init_0 : decode cX3_init 0 = .ok (.aload_n 0, 1) := dgX3_init_0.1
theorem dX3_init_1 : decode cX3_init 1 = .ok (.invokespecial 1, 3) := dgX3_init_0.2.1
theorem dX3_init_4 : decode cX3_init 4 = .ok (.aload_n 0, 1) := dgX3_init_0.2.2.1
theorem dX3_init_5 : decode cX3_init 5 = .ok (.new 7, 3) := dgX3_init_0.2.2.2.1
theorem dX3_init_8 : decode cX3_init 8 = .ok (.dup, 1) := dgX3_init_0.2.2.2.2.1
theorem dX3_init_9 : decode cX3_init 9 = .ok (.invokespecial 9, 3) := dgX3_init_0.2.2.2.2.2.1
theorem dX3_init_12 : decode cX3_init 12 = .ok (.putfield 10, 3) := dgX3_init_0.2.2.2.2.2.2.1
theorem dX3_init_15 : decode cX3_init 15 = .ok (.return_, 1) := dgX3_init_0.2.2.2.2.2.2.2
abbrev pX3_init : List Nat := [0]
def bX3_init_0 (cal : ab_F) : ab_K := o_aload 0 <| o_oinit <| o_aload 0 <| o_new 1 [.null, .int 0, .int 0] <| o_dup <| o_callI cal 20 0 <| o_putA 2 0 <| o_ret none
def bX3_init (cal : ab_F) : List ab_K := [bX3_init_0 cal]
set_option maxRecDepth 100000 in
theorem sX3_init_0 {G : ab_G} {xs : List Int32} {d : Nat} {cal : ab_F} (hcs : ab_CS G (ab_Z G xs) ab_Mf cal d) : ab_Sd G (ab_Z G xs) (d + 1) (ab_mY mX3_init pX3_init) 0 (bX3_init_0 cal) :=
  sn_aload_n dX3_init_0 rfl <| sn_oinit (Nat.le_add_left 1 _) dX3_init_1 w_259 w_80 w_81 <| sn_aload_n dX3_init_4 rfl <| sn_new tyX2 tyX2_ok dX3_init_5 rfl hinX2 w_260 w_236 w_61 rfl <| sn_dup dX3_init_8 <| sq_callIN mt_20 hcs dX3_init_9 zn_4 w_238 w_61 rfl rfl w_239 hy_20 hm_20 <| sn_putA tyX3 tyX3_ok nmX3 dX3_init_12 rfl hinX3 (by decide) w_262 (Or.inr ⟨rfl, rfl, rfl⟩) (tyX3_ok 0 (by decide)) (fun _ => ⟨rfl, rfl⟩) ⟨rfl, rfl⟩ <| sn_ret dX3_init_15 ab_ri_void
theorem sX3_init {G : ab_G} {xs : List Int32} {d : Nat} {cal : ab_F} (hcs : ab_CS G (ab_Z G xs) ab_Mf cal d) : ab_BS G (ab_Z G xs) (d + 1) (ab_mY mX3_init pX3_init) pX3_init (bX3_init cal) := ⟨sX3_init_0 hcs, trivial⟩
theorem dgX3_takeStone_0 : decode cX3_takeStone 0 = .ok (.aload_n 0, 1) ∧ decode cX3_takeStone 1 = .ok (.iload_n 1, 1) ∧ decode cX3_takeStone 2 = .ok (.putfield 16, 3) ∧ decode cX3_takeStone 5 = .ok (.aload_n 0, 1) ∧ decode cX3_takeStone 6 = .ok (.iload_n 2, 1) ∧ decode cX3_takeStone 7 = .ok (.putfield 20, 3) ∧ decode cX3_takeStone 10 = .ok (.aload_n 0, 1) ∧ decode cX3_takeStone 11 = .ok (.iload_n 3, 1) ∧ decode cX3_takeStone 12 = .ok (.putfield 23, 3) ∧ decode cX3_takeStone 15 = .ok (.return_, 1) := by decide +kernel
theorem dX3_takeStone_0 : decode cX3_takeStone 0 = .ok (.aload_n 0, 1) := dgX3_takeStone_0.1
theorem dX3_takeStone_1 : decode cX3_takeStone 1 = .ok (.iload_n 1, 1) := dgX3_takeStone_0.2.1
theorem dX3_takeStone_2 : decode cX3_takeStone 2 = .ok (.putfield 16, 3) := dgX3_takeStone_0.2.2.1
theorem dX3_takeStone_5 : decode cX3_takeStone 5 = .ok (.aload_n 0, 1) := dgX3_takeStone_0.2.2.2.1
theorem dX3_takeStone_6 : decode cX3_takeStone 6 = .ok (.iload_n 2, 1) := dgX3_takeStone_0.2.2.2.2.1
theorem dX3_takeStone_7 : decode cX3_takeStone 7 = .ok (.putfield 20, 3) := dgX3_takeStone_0.2.2.2.2.2.1
theorem dX3_takeStone_10 : decode cX3_takeStone 10 = .ok (.aload_n 0, 1) := dgX3_takeStone_0.2.2.2.2.2.2.1
theorem dX3_takeStone_11 : decode cX3_takeStone 11 = .ok (.iload_n 3, 1) := dgX3_takeStone_0.2.2.2.2.2.2.2.1
theorem dX3_takeStone_12 : decode cX3_takeStone 12 = .ok (.putfield 23, 3) := dgX3_takeStone_0.2.2.2.2.2.2.2.2.1
theorem dX3_takeStone_15 : decode cX3_takeStone 15 = .ok (.return_, 1) := dgX3_takeStone_0.2.2.2.2.2.2.2.2.2
abbrev pX3_takeStone : List Nat := [0]
def bX3_takeStone_0 (cal : ab_F) : ab_K := o_aload 0 <| o_iload 1 <| o_putI 2 2 <| o_aload 0 <| o_iload 2 <| o_putI 2 3 <| o_aload 0 <| o_iload 3 <| o_putI 2 4 <| o_ret none
def bX3_takeStone (cal : ab_F) : List ab_K := [bX3_takeStone_0 cal]
set_option maxRecDepth 100000 in
theorem sX3_takeStone_0 {G : ab_G} {xs : List Int32} {d : Nat} {cal : ab_F} (hcs : ab_CS G (ab_Z G xs) ab_Mf cal d) : ab_Sd G (ab_Z G xs) (d + 1) (ab_mY mX3_takeStone pX3_takeStone) 0 (bX3_takeStone_0 cal) :=
  sn_aload_n dX3_takeStone_0 rfl <| sn_iload_n dX3_takeStone_1 rfl <| sn_putI tyX3 tyX3_ok nmX3 dX3_takeStone_2 rfl hinX3 (by decide) w_265 (Or.inl rfl) (tyX3_ok 2 (by decide)) <| sn_aload_n dX3_takeStone_5 rfl <| sn_iload_n dX3_takeStone_6 rfl <| sn_putI tyX3 tyX3_ok nmX3 dX3_takeStone_7 rfl hinX3 (by decide) w_267 (Or.inl rfl) (tyX3_ok 3 (by decide)) <| sn_aload_n dX3_takeStone_10 rfl <| sn_iload_n dX3_takeStone_11 rfl <| sn_putI tyX3 tyX3_ok nmX3 dX3_takeStone_12 rfl hinX3 (by decide) w_269 (Or.inl rfl) (tyX3_ok 4 (by decide)) <| sn_ret dX3_takeStone_15 ab_ri_void
theorem sX3_takeStone {G : ab_G} {xs : List Int32} {d : Nat} {cal : ab_F} (hcs : ab_CS G (ab_Z G xs) ab_Mf cal d) : ab_BS G (ab_Z G xs) (d + 1) (ab_mY mX3_takeStone pX3_takeStone) pX3_takeStone (bX3_takeStone cal) := ⟨sX3_takeStone_0 hcs, trivial⟩
