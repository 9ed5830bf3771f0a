theorem dgX0_isOf_0 : decode cX0_isOf 0 = .ok (.getstatic 9, 3) ∧ decode cX0_isOf 3 = .ok (.iload_n 0, 1) ∧ decode cX0_isOf 4 = .ok (.iaload, 1) ∧ decode cX0_isOf 5 = .ok (.istore_n 2, 1) ∧ decode cX0_isOf 6 = .ok (.iload_n 0, 1) ∧ decode cX0_isOf 7 = .ok (.iload_n 1, 1) ∧ decode cX0_isOf 8 = .ok (.if_icmp .eq 17, 3) ∧ decode cX0_isOf 11 = .ok (.iload_n 2, 1) ∧ decode cX0_isOf 12 = .ok (.iload_n 1, 1) ∧ decode cX0_isOf 13 = .ok (.if_icmp .eq 12, 3) ∧ decode cX0_isOf 16 = .ok (.getstatic 9, 3) ∧ decode cX0_isOf 19 = .ok (.iload_n 2, 1) ∧ decode cX0_isOf 20 = .ok (.iaload, 1) ∧ decode cX0_isOf 21 = .ok (.iload_n 1, 1) ∧ decode cX0_isOf 22 = .ok (.if_icmp .ne 7, 3) ∧ decode cX0_isOf 25 = .ok (.iconst 1, 1) := by decide +kernel
theorem dX0_isOf_0 : decode cX0_isOf 0 = .ok (.getstatic 9, 3) := dgX0_isOf_0.1
theorem dX0_isOf_3 : decode cX0_isOf 3 = .ok (.iload_n 0, 1) := dgX0_isOf_0.2.1
theorem dX0_isOf_4 : decode cX0_isOf 4 = .ok (.iaload, 1) := dgX0_isOf_0.2.2.1
theorem dX0_isOf_5 : decode cX0_isOf 5 = .ok (.istore_n 2, 1) := dgX0_isOf_0.2.2.2.1
theorem dX0_isOf_6 : decode cX0_isOf 6 = .ok (.iload_n 0, 1) := dgX0_isOf_0.2.2.2.2.1
theorem dX0_isOf_7 : decode cX0_isOf 7 = .ok (.iload_n 1, 1) := dgX0_isOf_0.2.2.2.2.2.1
theorem dX0_isOf_8 : decode cX0_isOf 8 = .ok (.if_icmp .eq 17, 3) := dgX0_isOf_0.2.2.2.2.2.2.1
theorem dX0_isOf_11 : decode cX0_isOf 11 = .ok (.iload_n 2, 1) := dgX0_isOf_0.2.2.2.2.2.2.2.1
theorem dX0_isOf_12 : decode cX0_isOf 12 = .ok (.iload_n 1, 1) := dgX0_isOf_0.2.2.2.2.2.2.2.2.1
theorem dX0_isOf_13 : decode cX0_isOf 13 = .ok (.if_icmp .eq 12, 3) := dgX0_isOf_0.2.2.2.2.2.2.2.2.2.1
theorem dX0_isOf_16 : decode cX0_isOf 16 = .ok (.getstatic 9, 3) := dgX0_isOf_0.2.2.2.2.2.2.2.2.2.2.1
theorem dX0_isOf_19 : decode cX0_isOf 19 = .ok (.iload_n 2, 1) := dgX0_isOf_0.2.2.2.2.2.2.2.2.2.2.2.1
theorem dX0_isOf_20 : decode cX0_isOf 20 = .ok (.iaload, 1) := dgX0_isOf_0.2.2.2.2.2.2.2.2.2.2.2.2.1
theorem dX0_isOf_21 : decode cX0_isOf 21 = .ok (.iload_n 1, 1) := dgX0_isOf_0.2.2.2.2.2.2.2.2.2.2.2.2.2.1
theorem dX0_isOf_22 : decode cX0_isOf 22 = .ok (.if_icmp .ne 7, 3) := dgX0_isOf_0.2.2.2.2.2.2.2.2.2.2.2.2.2.2.1
theorem dX0_isOf_25 : decode cX0_isOf 25 = .ok (.iconst 1, 1) := dgX0_isOf_0.2.2.2.2.2.2.2.2.2.2.2.2.2.2.2
theorem dgX0_isOf_1 : decode cX0_isOf 26 = .ok (.goto 4, 3) ∧ decode cX0_isOf 29 = .ok (.iconst 0, 1) ∧ decode cX0_isOf 30 = .ok (.ireturn, 1) := by decide +kernel
theorem dX0_isOf_26 : decode cX0_isOf 26 = .ok (.goto 4, 3) := dgX0_isOf_1.1
theorem dX0_isOf_29 : decode cX0_isOf 29 = .ok (.iconst 0, 1) := dgX0_isOf_1.2.1
theorem dX0_isOf_30 : decode cX0_isOf 30 = .ok (.ireturn, 1) := dgX0_isOf_1.2.2
abbrev pX0_isOf : List Nat := [0, 25, 29, 30]
def bX0_isOf_0 (cal : ab_F) : ab_K := o_push (.ref (1000000 + 0)) <| o_iload 0 <| o_xald 0 ab_above <| o_istore 2 <| o_iload 0 <| o_iload 1 <| o_cmp (fun x y => decide (x = y)) 1 <| o_iload 2 <| o_iload 1 <| o_cmp (fun x y => decide (x = y)) 1 <| o_push (.ref (1000000 + 0)) <| o_iload 2 <| o_xald 0 ab_above <| o_iload 1 <| o_cmp (fun x y => decide (¬ x = y)) 2 <| o_goto 1
def bX0_isOf_1 (cal : ab_F) : ab_K := o_push (.int 1) <| o_goto 3
def bX0_isOf_2 (cal : ab_F) : ab_K := o_push (.int 0) <| o_goto 3
def bX0_isOf_3 (cal : ab_F) : ab_K := o_ret (some .boolean)
def bX0_isOf (cal : ab_F) : List ab_K := [bX0_isOf_0 cal, bX0_isOf_1 cal, bX0_isOf_2 cal, bX0_isOf_3 cal]
set_option maxRecDepth 100000 in
theorem sX0_isOf_0 {G : ab_G} {xs : List Int32} {d : Nat} {cal : ab_F} (hcs : ab_CS G (ab_Z G xs) ab_Mf cal d) : ab_Sd G (ab_Z G xs) (d + 1) (ab_mY mX0_isOf pX0_isOf) 0 (bX0_isOf_0 cal) :=
  sn_getsN dX0_isOf_0 (fun U h => h.2.2.2.1) <| sn_iload_n dX0_isOf_3 rfl <| sn_xaldT dX0_isOf_4 (fun U h => h.2.2.2.2.1) <| sn_istore_n dX0_isOf_5 rfl (by decide) <| sn_iload_n dX0_isOf_6 rfl <| sn_iload_n dX0_isOf_7 rfl <| sn_cmp_eq (tg := 25) dX0_isOf_8 rfl rfl <| sn_iload_n dX0_isOf_11 rfl <| sn_iload_n dX0_isOf_12 rfl <| sn_cmp_eq (tg := 25) dX0_isOf_13 rfl rfl <| sn_getsN dX0_isOf_16 (fun U h => h.2.2.2.1) <| sn_iload_n dX0_isOf_19 rfl <| sn_xaldT dX0_isOf_20 (fun U h => h.2.2.2.2.1) <| sn_iload_n dX0_isOf_21 rfl <| sn_cmp_ne (tg := 29) dX0_isOf_22 rfl rfl <| sn_next rfl
set_option maxRecDepth 100000 in
theorem sX0_isOf_1 {G : ab_G} {xs : List Int32} {d : Nat} {cal : ab_F} (hcs : ab_CS G (ab_Z G xs) ab_Mf cal d) : ab_Sd G (ab_Z G xs) (d + 1) (ab_mY mX0_isOf pX0_isOf) 25 (bX0_isOf_1 cal) :=
  sn_iconst dX0_isOf_25 rfl <| sn_goto (tg := 30) dX0_isOf_26 rfl rfl
set_option maxRecDepth 100000 in
theorem sX0_isOf_2 {G : ab_G} {xs : List Int32} {d : Nat} {cal : ab_F} (hcs : ab_CS G (ab_Z G xs) ab_Mf cal d) : ab_Sd G (ab_Z G xs) (d + 1) (ab_mY mX0_isOf pX0_isOf) 29 (bX0_isOf_2 cal) :=
  sn_iconst dX0_isOf_29 rfl <| sn_next rfl
set_option maxRecDepth 100000 in
theorem sX0_isOf_3 {G : ab_G} {xs : List Int32} {d : Nat} {cal : ab_F} (hcs : ab_CS G (ab_Z G xs) ab_Mf cal d) : ab_Sd G (ab_Z G xs) (d + 1) (ab_mY mX0_isOf pX0_isOf) 30 (bX0_isOf_3 cal) :=
  sn_ret dX0_isOf_30 ab_ri_bool
theorem sX0_isOf {G : ab_G} {xs : List Int32} {d : Nat} {cal : ab_F} (hcs : ab_CS G (ab_Z G xs) ab_Mf cal d) : ab_BS G (ab_Z G xs) (d + 1) (ab_mY mX0_isOf pX0_isOf) pX0_isOf (bX0_isOf cal) := ⟨sX0_isOf_0 hcs, sX0_isOf_1 hcs, sX0_isOf_2 hcs, sX0_isOf_3 hcs, trivial⟩
theorem dgX0_dark_0 : decode cX0_dark 0 = .ok (.iconst 0, 1) ∧ decode cX0_dark 1 = .ok (.iload_n 1, 1) ∧ decode cX0_dark 2 = .ok (.bipush 10, 2) ∧ decode cX0_dark 4 = .ok (.isub, 1) ∧ decode cX0_dark 5 = .ok (.invokestatic 13, 3) ∧ decode cX0_dark 8 = .ok (.istore_n 2, 1) ∧ decode cX0_dark 9 = .ok (.bipush 99, 2) ∧ decode cX0_dark 11 = .ok (.iload_n 1, 1) ∧ decode cX0_dark 12 = .ok (.isub, 1) ∧ decode cX0_dark 13 = .ok (.istore_n 3, 1) ∧ decode cX0_dark 14 = .ok (.iload_n 0, 1) ∧ decode cX0_dark 15 = .ok (.tableswitch 55 1 5 #[33, 42, 35, 44, 53], 33) ∧ decode cX0_dark 48 = .ok (.iload_n 2, 1) ∧ decode cX0_dark 49 = .ok (.ireturn, 1) ∧ decode cX0_dark 50 = .ok (.iload_n 2, 1) ∧ decode cX0_dark 51 = .ok (.bipush 60, 2) := by decide +kernel
theorem dX0_dark_0 : decode cX0_dark 0 = .ok (.iconst 0, 1) := dgX0_dark_0.1
theorem dX0_dark_1 : decode cX0_dark 1 = .ok (.iload_n 1, 1) := dgX0_dark_0.2.1
theorem dX0_dark_2 : decode cX0_dark 2 = .ok (.bipush 10, 2) := dgX0_dark_0.2.2.1
theorem dX0_dark_4 : decode cX0_dark 4 = .ok (.isub, 1) := dgX0_dark_0.2.2.2.1
theorem dX0_dark_5 : decode cX0_dark 5 = .ok (.invokestatic 13, 3) := dgX0_dark_0.2.2.2.2.1
theorem dX0_dark_8 : decode cX0_dark 8 = .ok (.istore_n 2, 1) := dgX0_dark_0.2.2.2.2.2.1
theorem dX0_dark_9 : decode cX0_dark 9 = .ok (.bipush 99, 2) := dgX0_dark_0.2.2.2.2.2.2.1
theorem dX0_dark_11 : decode cX0_dark 11 = .ok (.iload_n 1, 1) := dgX0_dark_0.2.2.2.2.2.2.2.1
theorem dX0_dark_12 : decode cX0_dark 12 = .ok (.isub, 1) := dgX0_dark_0.2.2.2.2.2.2.2.2.1
theorem dX0_dark_13 : decode cX0_dark 13 = .ok (.istore_n 3, 1) := dgX0_dark_0.2.2.2.2.2.2.2.2.2.1
theorem dX0_dark_14 : decode cX0_dark 14 = .ok (.iload_n 0, 1) := dgX0_dark_0.2.2.2.2.2.2.2.2.2.2.1
theorem dX0_dark_15 : decode cX0_dark 15 = .ok (.tableswitch 55 1 5 #[33, 42, 35, 44, 53], 33) := dgX0_dark_0.2.2.2.2.2.2.2.2.2.2.2.1
theorem dX0_dark_48 : decode cX0_dark 48 = .ok (.iload_n 2, 1) := dgX0_dark_0.2.2.2.2.2.2.2.2.2.2.2.2.1
theorem dX0_dark_49 : decode cX0_dark 49 = .ok (.ireturn, 1) := dgX0_dark_0.2.2.2.2.2.2.2.2.2.2.2.2.2.1
theorem dX0_dark_50 : decode cX0_dark 50 = .ok (.iload_n 2, 1) := dgX0_dark_0.2.2.2.2.2.2.2.2.2.2.2.2.2.2.1
theorem dX0_dark_51 : decode cX0_dark 51 = .ok (.bipush 60, 2) := dgX0_dark_0.2.2.2.2.2.2.2.2.2.2.2.2.2.2.2
theorem dgX0_dark_1 : decode cX0_dark 53 = .ok (.iadd, 1) ∧ decode cX0_dark 54 = .ok (.iconst 2, 1) ∧ decode cX0_dark 55 = .ok (.idiv, 1) ∧ decode cX0_dark 56 = .ok (.ireturn, 1) ∧ decode cX0_dark 57 = .ok (.iload_n 3, 1) ∧ decode cX0_dark 58 = .ok (.ireturn, 1) ∧ decode cX0_dark 59 = .ok (.bipush 99, 2) ∧ decode cX0_dark 61 = .ok (.iload_n 3, 1) ∧ decode cX0_dark 62 = .ok (.iconst 5, 1) ∧ decode cX0_dark 63 = .ok (.iadd, 1) ∧ decode cX0_dark 64 = .ok (.invokestatic 19, 3) ∧ decode cX0_dark 67 = .ok (.ireturn, 1) ∧ decode cX0_dark 68 = .ok (.iconst 0, 1) ∧ decode cX0_dark 69 = .ok (.ireturn, 1) ∧ decode cX0_dark 70 = .ok (.iload_n 1, 1) ∧ decode cX0_dark 71 = .ok (.ireturn, 1) := by decide +kernel
theorem dX0_dark_53 : decode cX0_dark 53 = .ok (.iadd, 1) := dgX0_dark_1.1
theorem dX0_dark_54 : decode cX0_dark 54 = .ok (.iconst 2, 1) := dgX0_dark_1.2.1
theorem dX0_dark_55 : decode cX0_dark 55 = .ok (.idiv, 1) := dgX0_dark_1.2.2.1
theorem dX0_dark_56 : decode cX0_dark 56 = .ok (.ireturn, 1) := dgX0_dark_1.2.2.2.1
theorem dX0_dark_57 : decode cX0_dark 57 = .ok (.iload_n 3, 1) := dgX0_dark_1.2.2.2.2.1
theorem dX0_dark_58 : decode cX0_dark 58 = .ok (.ireturn, 1) := dgX0_dark_1.2.2.2.2.2.1
theorem dX0_dark_59 : decode cX0_dark 59 = .ok (.bipush 99, 2) := dgX0_dark_1.2.2.2.2.2.2.1
theorem dX0_dark_61 : decode cX0_dark 61 = .ok (.iload_n 3, 1) := dgX0_dark_1.2.2.2.2.2.2.2.1
theorem dX0_dark_62 : decode cX0_dark 62 = .ok (.iconst 5, 1) := dgX0_dark_1.2.2.2.2.2.2.2.2.1
theorem dX0_dark_63 : decode cX0_dark 63 = .ok (.iadd, 1) := dgX0_dark_1.2.2.2.2.2.2.2.2.2.1
theorem dX0_dark_64 : decode cX0_dark 64 = .ok (.invokestatic 19, 3) := dgX0_dark_1.2.2.2.2.2.2.2.2.2.2.1
theorem dX0_dark_67 : decode cX0_dark 67 = .ok (.ireturn, 1) := dgX0_dark_1.2.2.2.2.2.2.2.2.2.2.2.1
theorem dX0_dark_68 : decode cX0_dark 68 = .ok (.iconst 0, 1) := dgX0_dark_1.2.2.2.2.2.2.2.2.2.2.2.2.1
theorem dX0_dark_69 : decode cX0_dark 69 = .ok (.ireturn, 1) := dgX0_dark_1.2.2.2.2.2.2.2.2.2.2.2.2.2.1
theorem dX0_dark_70 : decode cX0_dark 70 = .ok (.iload_n 1, 1) := dgX0_dark_1.2.2.2.2.2.2.2.2.2.2.2.2.2.2.1
theorem dX0_dark_71 : decode cX0_dark 71 = .ok (.ireturn, 1) := dgX0_dark_1.2.2.2.2.2.2.2.2.2.2.2.2.2.2.2
abbrev pX0_dark : List Nat := [0, 48, 50, 57, 59, 68, 70]
def bX0_dark_0 (cal : ab_F) : ab_K := o_push (.int 0) <| o_iload 1 <| o_push (.int 10) <| o_bin (fun x y => x - y) <| o_m2 (fun x y => if x < y then y else x) <| o_istore 2 <| o_push (.int 99) <| o_iload 1 <| o_bin (fun x y => x - y) <| o_istore 3 <| o_iload 0 <| o_sw (ab_tsw 1 [1, 3, 2, 4, 5] 6)
def bX0_dark_1 (cal : ab_F) : ab_K := o_iload 2 <| o_ret (some .int)
def bX0_dark_2 (cal : ab_F) : ab_K := o_iload 2 <| o_push (.int 60) <| o_bin (fun x y => x + y) <| o_push (.int 2) <| o_div (fun x y => x / y) <| o_ret (some .int)
def bX0_dark_3 (cal : ab_F) : ab_K := o_iload 3 <| o_ret (some .int)
def bX0_dark_4 (cal : ab_F) : ab_K := o_push (.int 99) <| o_iload 3 <| o_push (.int 5) <| o_bin (fun x y => x + y) <| o_m2 (fun x y => if y < x then y else x) <| o_ret (some .int)
def bX0_dark_5 (cal : ab_F) : ab_K := o_push (.int 0) <| o_ret (some .int)
def bX0_dark_6 (cal : ab_F) : ab_K := o_iload 1 <| o_ret (some .int)
def bX0_dark (cal : ab_F) : List ab_K := [bX0_dark_0 cal, bX0_dark_1 cal, bX0_dark_2 cal, bX0_dark_3 cal, bX0_dark_4 cal, bX0_dark_5 cal, bX0_dark_6 cal]
set_option maxRecDepth 100000 in
theorem sX0_dark_0 {G : ab_G} {xs : List Int32} {d : Nat} {cal : ab_F} (hcs : ab_CS G (ab_Z G xs) ab_Mf cal d) : ab_Sd G (ab_Z G xs) (d + 1) (ab_mY mX0_dark pX0_dark) 0 (bX0_dark_0 cal) :=
  sn_iconst dX0_dark_0 rfl <| sn_iload_n dX0_dark_1 rfl <| sn_bipush dX0_dark_2 rfl <| sn_isub dX0_dark_4 <| sn_mmax (Nat.le_add_left 1 _) rfl dX0_dark_5 w_380 w_375 w_66 w_376 <| sn_istore_n dX0_dark_8 rfl (by decide) <| sn_bipush dX0_dark_9 rfl <| sn_iload_n dX0_dark_11 rfl <| sn_isub dX0_dark_12 <| sn_istore_n dX0_dark_13 rfl (by decide) <| sn_iload_n dX0_dark_14 rfl <| sn_tsw dX0_dark_15 rfl rfl rfl
set_option maxRecDepth 100000 in
theorem sX0_dark_1 {G : ab_G} {xs : List Int32} {d : Nat} {cal : ab_F} (hcs : ab_CS G (ab_Z G xs) ab_Mf cal d) : ab_Sd G (ab_Z G xs) (d + 1) (ab_mY mX0_dark pX0_dark) 48 (bX0_dark_1 cal) :=
  sn_iload_n dX0_dark_48 rfl <| sn_ret dX0_dark_49 ab_ri_int
set_option maxRecDepth 100000 in
theorem sX0_dark_2 {G : ab_G} {xs : List Int32} {d : Nat} {cal : ab_F} (hcs : ab_CS G (ab_Z G xs) ab_Mf cal d) : ab_Sd G (ab_Z G xs) (d + 1) (ab_mY mX0_dark pX0_dark) 50 (bX0_dark_2 cal) :=
  sn_iload_n dX0_dark_50 rfl <| sn_bipush dX0_dark_51 rfl <| sn_iadd dX0_dark_53 <| sn_iconst dX0_dark_54 rfl <| sn_idiv dX0_dark_55 <| sn_ret dX0_dark_56 ab_ri_int
set_option maxRecDepth 100000 in
theorem sX0_dark_3 {G : ab_G} {xs : List Int32} {d : Nat} {cal : ab_F} (hcs : ab_CS G (ab_Z G xs) ab_Mf cal d) : ab_Sd G (ab_Z G xs) (d + 1) (ab_mY mX0_dark pX0_dark) 57 (bX0_dark_3 cal) :=
  sn_iload_n dX0_dark_57 rfl <| sn_ret dX0_dark_58 ab_ri_int
set_option maxRecDepth 100000 in
theorem sX0_dark_4 {G : ab_G} {xs : List Int32} {d : Nat} {cal : ab_F} (hcs : ab_CS G (ab_Z G xs) ab_Mf cal d) : ab_Sd G (ab_Z G xs) (d + 1) (ab_mY mX0_dark pX0_dark) 59 (bX0_dark_4 cal) :=
  sn_bipush dX0_dark_59 rfl <| sn_iload_n dX0_dark_61 rfl <| sn_iconst dX0_dark_62 rfl <| sn_iadd dX0_dark_63 <| sn_mmin (Nat.le_add_left 1 _) rfl dX0_dark_64 w_381 w_372 w_66 w_373 <| sn_ret dX0_dark_67 ab_ri_int
set_option maxRecDepth 100000 in
theorem sX0_dark_5 {G : ab_G} {xs : List Int32} {d : Nat} {cal : ab_F} (hcs : ab_CS G (ab_Z G xs) ab_Mf cal d) : ab_Sd G (ab_Z G xs) (d + 1) (ab_mY mX0_dark pX0_dark) 68 (bX0_dark_5 cal) :=
  sn_iconst dX0_dark_68 rfl <| sn_ret dX0_dark_69 ab_ri_int
set_option maxRecDepth 100000 in
theorem sX0_dark_6 {G : ab_G} {xs : List Int32} {d : Nat} {cal : ab_F} (hcs : ab_CS G (ab_Z G xs) ab_Mf cal d) : ab_Sd G (ab_Z G xs) (d + 1) (ab_mY mX0_dark pX0_dark) 70 (bX0_dark_6 cal) :=
  sn_iload_n dX0_dark_70 rfl <| sn_ret dX0_dark_71 ab_ri_int
theorem sX0_dark {G : ab_G} {xs : List Int32} {d : Nat} {cal : ab_F} (hcs : ab_CS G (ab_Z G xs) ab_Mf cal d) : ab_BS G (ab_Z G xs) (d + 1) (ab_mY mX0_dark pX0_dark) pX0_dark (bX0_dark cal) := ⟨sX0_dark_0 hcs, sX0_dark_1 hcs, sX0_dark_2 hcs, sX0_dark_3 hcs, sX0_dark_4 hcs, sX0_dark_5 hcs, sX0_dark_6 hcs, trivial⟩
theorem dgX0_heavy_0 : decode cX0_heavy 0 = .ok (.iload_n 1, 1) ∧ decode cX0_heavy 1 = .ok (.iload_n 2, 1) ∧ decode cX0_heavy 2 = .ok (.iadd, 1) ∧ decode cX0_heavy 3 = .ok (.istore_n 3, 1) ∧ decode cX0_heavy 4 = .ok (.iload_n 0, 1) ∧ decode cX0_heavy 5 = .ok (.tableswitch 51 1 5 #[35, 45, 39, 45, 49], 35) ∧ decode cX0_heavy 40 = .ok (.iload_n 3, 1) ∧ decode cX0_heavy 41 = .ok (.iconst 2, 1) ∧ decode cX0_heavy 42 = .ok (.iadd, 1) ∧ decode cX0_heavy 43 = .ok (.ireturn, 1) ∧ decode cX0_heavy 44 = .ok (.iconst 2, 1) ∧ decode cX0_heavy 45 = .ok (.iload_n 3, 1) ∧ decode cX0_heavy 46 = .ok (.iconst 2, 1) ∧ decode cX0_heavy 47 = .ok (.iadd, 1) ∧ decode cX0_heavy 48 = .ok (.imul, 1) ∧ decode cX0_heavy 49 = .ok (.ireturn, 1) := by decide +kernel
theorem dX0_heavy_0 : decode cX0_heavy 0 = .ok (.iload_n 1, 1) := dgX0_heavy_0.1
theorem dX0_heavy_1 : decode cX0_heavy 1 = .ok (.iload_n 2, 1) := dgX0_heavy_0.2.1
theorem dX0_heavy_2 : decode cX0_heavy 2 = .ok (.iadd, 1) := dgX0_heavy_0.2.2.1
theorem dX0_heavy_3 : decode cX0_heavy 3 = .ok (.istore_n 3, 1) := dgX0_heavy_0.2.2.2.1
theorem dX0_heavy_4 : decode cX0_heavy 4 = .ok (.iload_n 0, 1) := dgX0_heavy_0.2.2.2.2.1
theorem dX0_heavy_5 : decode cX0_heavy 5 = .ok (.tableswitch 51 1 5 #[35, 45, 39, 45, 49], 35) := dgX0_heavy_0.2.2.2.2.2.1
theorem dX0_heavy_40 : decode cX0_heavy 40 = .ok (.iload_n 3, 1) := dgX0_heavy_0.2.2.2.2.2.2.1
theorem dX0_heavy_41 : decode cX0_heavy 41 = .ok (.iconst 2, 1) := dgX0_heavy_0.2.2.2.2.2.2.2.1
theorem dX0_heavy_42 : decode cX0_heavy 42 = .ok (.iadd, 1) := dgX0_heavy_0.2.2.2.2.2.2.2.2.1
theorem dX0_heavy_43 : decode cX0_heavy 43 = .ok (.ireturn, 1) := dgX0_heavy_0.2.2.2.2.2.2.2.2.2.1
theorem dX0_heavy_44 : decode cX0_heavy 44 = .ok (.iconst 2, 1) := dgX0_heavy_0.2.2.2.2.2.2.2.2.2.2.1
theorem dX0_heavy_45 : decode cX0_heavy 45 = .ok (.iload_n 3, 1) := dgX0_heavy_0.2.2.2.2.2.2.2.2.2.2.2.1
theorem dX0_heavy_46 : decode cX0_heavy 46 = .ok (.iconst 2, 1) := dgX0_heavy_0.2.2.2.2.2.2.2.2.2.2.2.2.1
theorem dX0_heavy_47 : decode cX0_heavy 47 = .ok (.iadd, 1) := dgX0_heavy_0.2.2.2.2.2.2.2.2.2.2.2.2.2.1
theorem dX0_heavy_48 : decode cX0_heavy 48 = .ok (.imul, 1) := dgX0_heavy_0.2.2.2.2.2.2.2.2.2.2.2.2.2.2.1
theorem dX0_heavy_49 : decode cX0_heavy 49 = .ok (.ireturn, 1) := dgX0_heavy_0.2.2.2.2.2.2.2.2.2.2.2.2.2.2.2
theorem dgX0_heavy_1 : decode cX0_heavy 50 = .ok (.iload_n 3, 1) ∧ decode cX0_heavy 51 = .ok (.iconst 2, 1) ∧ decode cX0_heavy 52 = .ok (.idiv, 1) ∧ decode cX0_heavy 53 = .ok (.ireturn, 1) ∧ decode cX0_heavy 54 = .ok (.iconst 1, 1) ∧ decode cX0_heavy 55 = .ok (.ireturn, 1) ∧ decode cX0_heavy 56 = .ok (.iload_n 3, 1) ∧ decode cX0_heavy 57 = .ok (.ireturn, 1) := by decide +kernel
theorem dX0_heavy_50 : decode cX0_heavy 50 = .ok (.iload_n 3, 1) := dgX0_heavy_1.1
theorem dX0_heavy_51 : decode cX0_heavy 51 = .ok (.iconst 2, 1) := dgX0_heavy_1.2.1
theorem dX0_heavy_52 : decode cX0_heavy 52 = .ok (.idiv, 1) := dgX0_heavy_1.2.2.1
theorem dX0_heavy_53 : decode cX0_heavy 53 = .ok (.ireturn, 1) := dgX0_heavy_1.2.2.2.1
theorem dX0_heavy_54 : decode cX0_heavy 54 = .ok (.iconst 1, 1) := dgX0_heavy_1.2.2.2.2.1
theorem dX0_heavy_55 : decode cX0_heavy 55 = .ok (.ireturn, 1) := dgX0_heavy_1.2.2.2.2.2.1
theorem dX0_heavy_56 : decode cX0_heavy 56 = .ok (.iload_n 3, 1) := dgX0_heavy_1.2.2.2.2.2.2.1
theorem dX0_heavy_57 : decode cX0_heavy 57 = .ok (.ireturn, 1) := dgX0_heavy_1.2.2.2.2.2.2.2
abbrev pX0_heavy : List Nat := [0, 40, 44, 50, 54, 56]
def bX0_heavy_0 (cal : ab_F) : ab_K := o_iload 1 <| o_iload 2 <| o_bin (fun x y => x + y) <| o_istore 3 <| o_iload 0 <| o_sw (ab_tsw 1 [1, 3, 2, 3, 4] 5)
def bX0_heavy_1 (cal : ab_F) : ab_K := o_iload 3 <| o_push (.int 2) <| o_bin (fun x y => x + y) <| o_ret (some .int)
def bX0_heavy_2 (cal : ab_F) : ab_K := o_push (.int 2) <| o_iload 3 <| o_push (.int 2) <| o_bin (fun x y => x + y) <| o_bin (fun x y => x * y) <| o_ret (some .int)
def bX0_heavy_3 (cal : ab_F) : ab_K := o_iload 3 <| o_push (.int 2) <| o_div (fun x y => x / y) <| o_ret (some .int)
def bX0_heavy_4 (cal : ab_F) : ab_K := o_push (.int 1) <| o_ret (some .int)
def bX0_heavy_5 (cal : ab_F) : ab_K := o_iload 3 <| o_ret (some .int)
def bX0_heavy (cal : ab_F) : List ab_K := [bX0_heavy_0 cal, bX0_heavy_1 cal, bX0_heavy_2 cal, bX0_heavy_3 cal, bX0_heavy_4 cal, bX0_heavy_5 cal]
set_option maxRecDepth 100000 in
theorem sX0_heavy_0 {G : ab_G} {xs : List Int32} {d : Nat} {cal : ab_F} (hcs : ab_CS G (ab_Z G xs) ab_Mf cal d) : ab_Sd G (ab_Z G xs) (d + 1) (ab_mY mX0_heavy pX0_heavy) 0 (bX0_heavy_0 cal) :=
  sn_iload_n dX0_heavy_0 rfl <| sn_iload_n dX0_heavy_1 rfl <| sn_iadd dX0_heavy_2 <| sn_istore_n dX0_heavy_3 rfl (by decide) <| sn_iload_n dX0_heavy_4 rfl <| sn_tsw dX0_heavy_5 rfl rfl rfl
set_option maxRecDepth 100000 in
theorem sX0_heavy_1 {G : ab_G} {xs : List Int32} {d : Nat} {cal : ab_F} (hcs : ab_CS G (ab_Z G xs) ab_Mf cal d) : ab_Sd G (ab_Z G xs) (d + 1) (ab_mY mX0_heavy pX0_heavy) 40 (bX0_heavy_1 cal) :=
  sn_iload_n dX0_heavy_40 rfl <| sn_iconst dX0_heavy_41 rfl <| sn_iadd dX0_heavy_42 <| sn_ret dX0_heavy_43 ab_ri_int
set_option maxRecDepth 100000 in
theorem sX0_heavy_2 {G : ab_G} {xs : List Int32} {d : Nat} {cal : ab_F} (hcs : ab_CS G (ab_Z G xs) ab_Mf cal d) : ab_Sd G (ab_Z G xs) (d + 1) (ab_mY mX0_heavy pX0_heavy) 44 (bX0_heavy_2 cal) :=
  sn_iconst dX0_heavy_44 rfl <| sn_iload_n dX0_heavy_45 rfl <| sn_iconst dX0_heavy_46 rfl <| sn_iadd dX0_heavy_47 <| sn_imul dX0_heavy_48 <| sn_ret dX0_heavy_49 ab_ri_int
set_option maxRecDepth 100000 in
theorem sX0_heavy_3 {G : ab_G} {xs : List Int32} {d : Nat} {cal : ab_F} (hcs : ab_CS G (ab_Z G xs) ab_Mf cal d) : ab_Sd G (ab_Z G xs) (d + 1) (ab_mY mX0_heavy pX0_heavy) 50 (bX0_heavy_3 cal) :=
  sn_iload_n dX0_heavy_50 rfl <| sn_iconst dX0_heavy_51 rfl <| sn_idiv dX0_heavy_52 <| sn_ret dX0_heavy_53 ab_ri_int
set_option maxRecDepth 100000 in
theorem sX0_heavy_4 {G : ab_G} {xs : List Int32} {d : Nat} {cal : ab_F} (hcs : ab_CS G (ab_Z G xs) ab_Mf cal d) : ab_Sd G (ab_Z G xs) (d + 1) (ab_mY mX0_heavy pX0_heavy) 54 (bX0_heavy_4 cal) :=
  sn_iconst dX0_heavy_54 rfl <| sn_ret dX0_heavy_55 ab_ri_int
set_option maxRecDepth 100000 in
theorem sX0_heavy_5 {G : ab_G} {xs : List Int32} {d : Nat} {cal : ab_F} (hcs : ab_CS G (ab_Z G xs) ab_Mf cal d) : ab_Sd G (ab_Z G xs) (d + 1) (ab_mY mX0_heavy pX0_heavy) 56 (bX0_heavy_5 cal) :=
  sn_iload_n dX0_heavy_56 rfl <| sn_ret dX0_heavy_57 ab_ri_int
theorem sX0_heavy {G : ab_G} {xs : List Int32} {d : Nat} {cal : ab_F} (hcs : ab_CS G (ab_Z G xs) ab_Mf cal d) : ab_BS G (ab_Z G xs) (d + 1) (ab_mY mX0_heavy pX0_heavy) pX0_heavy (bX0_heavy cal) := ⟨sX0_heavy_0 hcs, sX0_heavy_1 hcs, sX0_heavy_2 hcs, sX0_heavy_3 hcs, sX0_heavy_4 hcs, sX0_heavy_5 hcs, trivial⟩
theorem dgX0_worth_0 : decode cX0_worth 0 = .ok (.bipush 10, 2) ∧ decode cX0_worth 2 = .ok (.iload_n 1, 1) ∧ decode cX0_worth 3 = .ok (.imul, 1) ∧ decode cX0_worth 4 = .ok (.iload_n 2, 1) ∧ decode cX0_worth 5 = .ok (.iadd, 1) ∧ decode cX0_worth 6 = .ok (.istore_n 3, 1) ∧ decode cX0_worth 7 = .ok (.iload_n 0, 1) ∧ decode cX0_worth 8 = .ok (.tableswitch 62 1 5 #[36, 48, 41, 53, 60], 36) ∧ decode cX0_worth 44 = .ok (.iload_n 3, 1) ∧ decode cX0_worth 45 = .ok (.bipush 7, 2) ∧ decode cX0_worth 47 = .ok (.iadd, 1) ∧ decode cX0_worth 48 = .ok (.ireturn, 1) ∧ decode cX0_worth 49 = .ok (.iconst 2, 1) ∧ decode cX0_worth 50 = .ok (.iload_n 3, 1) ∧ decode cX0_worth 51 = .ok (.bipush 7, 2) ∧ decode cX0_worth 53 = .ok (.iadd, 1) := by decide +kernel
theorem dX0_worth_0 : decode cX0_worth 0 = .ok (.bipush 10, 2) := dgX0_worth_0.1
theorem dX0_worth_2 : decode cX0_worth 2 = .ok (.iload_n 1, 1) := dgX0_worth_0.2.1
theorem dX0_worth_3 : decode cX0_worth 3 = .ok (.imul, 1) := dgX0_worth_0.2.2.1
theorem dX0_worth_4 : decode cX0_worth 4 = .ok (.iload_n 2, 1) := dgX0_worth_0.2.2.2.1
theorem dX0_worth_5 : decode cX0_worth 5 = .ok (.iadd, 1) := dgX0_worth_0.2.2.2.2.1
theorem dX0_worth_6 : decode cX0_worth 6 = .ok (.istore_n 3, 1) := dgX0_worth_0.2.2.2.2.2.1
theorem dX0_worth_7 : decode cX0_worth 7 = .ok (.iload_n 0, 1) := dgX0_worth_0.2.2.2.2.2.2.1
theorem dX0_worth_8 : decode cX0_worth 8 = .ok (.tableswitch 62 1 5 #[36, 48, 41, 53, 60], 36) := dgX0_worth_0.2.2.2.2.2.2.2.1
theorem dX0_worth_44 : decode cX0_worth 44 = .ok (.iload_n 3, 1) := dgX0_worth_0.2.2.2.2.2.2.2.2.1
theorem dX0_worth_45 : decode cX0_worth 45 = .ok (.bipush 7, 2) := dgX0_worth_0.2.2.2.2.2.2.2.2.2.1
theorem dX0_worth_47 : decode cX0_worth 47 = .ok (.iadd, 1) := dgX0_worth_0.2.2.2.2.2.2.2.2.2.2.1
theorem dX0_worth_48 : decode cX0_worth 48 = .ok (.ireturn, 1) := dgX0_worth_0.2.2.2.2.2.2.2.2.2.2.2.1
theorem dX0_worth_49 : decode cX0_worth 49 = .ok (.iconst 2, 1) := dgX0_worth_0.2.2.2.2.2.2.2.2.2.2.2.2.1
theorem dX0_worth_50 : decode cX0_worth 50 = .ok (.iload_n 3, 1) := dgX0_worth_0.2.2.2.2.2.2.2.2.2.2.2.2.2.1
theorem dX0_worth_51 : decode cX0_worth 51 = .ok (.bipush 7, 2) := dgX0_worth_0.2.2.2.2.2.2.2.2.2.2.2.2.2.2.1
theorem dX0_worth_53 : decode cX0_worth 53 = .ok (.iadd, 1) := dgX0_worth_0.2.2.2.2.2.2.2.2.2.2.2.2.2.2.2
theorem dgX0_worth_1 : decode cX0_worth 54 = .ok (.imul, 1) ∧ decode cX0_worth 55 = .ok (.ireturn, 1) ∧ decode cX0_worth 56 = .ok (.bipush 99, 2) ∧ decode cX0_worth 58 = .ok (.iload_n 3, 1) ∧ decode cX0_worth 59 = .ok (.isub, 1) ∧ decode cX0_worth 60 = .ok (.ireturn, 1) ∧ decode cX0_worth 61 = .ok (.bipush 99, 2) ∧ decode cX0_worth 63 = .ok (.iload_n 3, 1) ∧ decode cX0_worth 64 = .ok (.isub, 1) ∧ decode cX0_worth 65 = .ok (.iconst 4, 1) ∧ decode cX0_worth 66 = .ok (.isub, 1) ∧ decode cX0_worth 67 = .ok (.ireturn, 1) ∧ decode cX0_worth 68 = .ok (.iconst 3, 1) ∧ decode cX0_worth 69 = .ok (.ireturn, 1) ∧ decode cX0_worth 70 = .ok (.iload_n 3, 1) ∧ decode cX0_worth 71 = .ok (.ireturn, 1) := by decide +kernel
theorem dX0_worth_54 : decode cX0_worth 54 = .ok (.imul, 1) := dgX0_worth_1.1
theorem dX0_worth_55 : decode cX0_worth 55 = .ok (.ireturn, 1) := dgX0_worth_1.2.1
theorem dX0_worth_56 : decode cX0_worth 56 = .ok (.bipush 99, 2) := dgX0_worth_1.2.2.1
theorem dX0_worth_58 : decode cX0_worth 58 = .ok (.iload_n 3, 1) := dgX0_worth_1.2.2.2.1
theorem dX0_worth_59 : decode cX0_worth 59 = .ok (.isub, 1) := dgX0_worth_1.2.2.2.2.1
theorem dX0_worth_60 : decode cX0_worth 60 = .ok (.ireturn, 1) := dgX0_worth_1.2.2.2.2.2.1
theorem dX0_worth_61 : decode cX0_worth 61 = .ok (.bipush 99, 2) := dgX0_worth_1.2.2.2.2.2.2.1
theorem dX0_worth_63 : decode cX0_worth 63 = .ok (.iload_n 3, 1) := dgX0_worth_1.2.2.2.2.2.2.2.1
theorem dX0_worth_64 : decode cX0_worth 64 = .ok (.isub, 1) := dgX0_worth_1.2.2.2.2.2.2.2.2.1
theorem dX0_worth_65 : decode cX0_worth 65 = .ok (.iconst 4, 1) := dgX0_worth_1.2.2.2.2.2.2.2.2.2.1
theorem dX0_worth_66 : decode cX0_worth 66 = .ok (.isub, 1) := dgX0_worth_1.2.2.2.2.2.2.2.2.2.2.1
theorem dX0_worth_67 : decode cX0_worth 67 = .ok (.ireturn, 1) := dgX0_worth_1.2.2.2.2.2.2.2.2.2.2.2.1
theorem dX0_worth_68 : decode cX0_worth 68 = .ok (.iconst 3, 1) := dgX0_worth_1.2.2.2.2.2.2.2.2.2.2.2.2.1
theorem dX0_worth_69 : decode cX0_worth 69 = .ok (.ireturn, 1) := dgX0_worth_1.2.2.2.2.2.2.2.2.2.2.2.2.2.1
theorem dX0_worth_70 : decode cX0_worth 70 = .ok (.iload_n 3, 1) := dgX0_worth_1.2.2.2.2.2.2.2.2.2.2.2.2.2.2.1
theorem dX0_worth_71 : decode cX0_worth 71 = .ok (.ireturn, 1) := dgX0_worth_1.2.2.2.2.2.2.2.2.2.2.2.2.2.2.2
abbrev pX0_worth : List Nat := [0, 44, 49, 56, 61, 68, 70]
def bX0_worth_0 (cal : ab_F) : ab_K := o_push (.int 10) <| o_iload 1 <| o_bin (fun x y => x * y) <| o_iload 2 <| o_bin (fun x y => x + y) <| o_istore 3 <| o_iload 0 <| o_sw (ab_tsw 1 [1, 3, 2, 4, 5] 6)
def bX0_worth_1 (cal : ab_F) : ab_K := o_iload 3 <| o_push (.int 7) <| o_bin (fun x y => x + y) <| o_ret (some .int)
def bX0_worth_2 (cal : ab_F) : ab_K := o_push (.int 2) <| o_iload 3 <| o_push (.int 7) <| o_bin (fun x y => x + y) <| o_bin (fun x y => x * y) <| o_ret (some .int)
def bX0_worth_3 (cal : ab_F) : ab_K := o_push (.int 99) <| o_iload 3 <| o_bin (fun x y => x - y) <| o_ret (some .int)
def bX0_worth_4 (cal : ab_F) : ab_K := o_push (.int 99) <| o_iload 3 <| o_bin (fun x y => x - y) <| o_push (.int 4) <| o_bin (fun x y => x - y) <| o_ret (some .int)
def bX0_worth_5 (cal : ab_F) : ab_K := o_push (.int 3) <| o_ret (some .int)
def bX0_worth_6 (cal : ab_F) : ab_K := o_iload 3 <| o_ret (some .int)
def bX0_worth (cal : ab_F) : List ab_K := [bX0_worth_0 cal, bX0_worth_1 cal, bX0_worth_2 cal, bX0_worth_3 cal, bX0_worth_4 cal, bX0_worth_5 cal, bX0_worth_6 cal]
set_option maxRecDepth 100000 in
theorem sX0_worth_0 {G : ab_G} {xs : List Int32} {d : Nat} {cal : ab_F} (hcs : ab_CS G (ab_Z G xs) ab_Mf cal d) : ab_Sd G (ab_Z G xs) (d + 1) (ab_mY mX0_worth pX0_worth) 0 (bX0_worth_0 cal) :=
  sn_bipush dX0_worth_0 rfl <| sn_iload_n dX0_worth_2 rfl <| sn_imul dX0_worth_3 <| sn_iload_n dX0_worth_4 rfl <| sn_iadd dX0_worth_5 <| sn_istore_n dX0_worth_6 rfl (by decide) <| sn_iload_n dX0_worth_7 rfl <| sn_tsw dX0_worth_8 rfl rfl rfl
set_option maxRecDepth 100000 in
theorem sX0_worth_1 {G : ab_G} {xs : List Int32} {d : Nat} {cal : ab_F} (hcs : ab_CS G (ab_Z G xs) ab_Mf cal d) : ab_Sd G (ab_Z G xs) (d + 1) (ab_mY mX0_worth pX0_worth) 44 (bX0_worth_1 cal) :=
  sn_iload_n dX0_worth_44 rfl <| sn_bipush dX0_worth_45 rfl <| sn_iadd dX0_worth_47 <| sn_ret dX0_worth_48 ab_ri_int
set_option maxRecDepth 100000 in
theorem sX0_worth_2 {G : ab_G} {xs : List Int32} {d : Nat} {cal : ab_F} (hcs : ab_CS G (ab_Z G xs) ab_Mf cal d) : ab_Sd G (ab_Z G xs) (d + 1) (ab_mY mX0_worth pX0_worth) 49 (bX0_worth_2 cal) :=
  sn_iconst dX0_worth_49 rfl <| sn_iload_n dX0_worth_50 rfl <| sn_bipush dX0_worth_51 rfl <| sn_iadd dX0_worth_53 <| sn_imul dX0_worth_54 <| sn_ret dX0_worth_55 ab_ri_int
set_option maxRecDepth 100000 in
theorem sX0_worth_3 {G : ab_G} {xs : List Int32} {d : Nat} {cal : ab_F} (hcs : ab_CS G (ab_Z G xs) ab_Mf cal d) : ab_Sd G (ab_Z G xs) (d + 1) (ab_mY mX0_worth pX0_worth) 56 (bX0_worth_3 cal) :=
  sn_bipush dX0_worth_56 rfl <| sn_iload_n dX0_worth_58 rfl <| sn_isub dX0_worth_59 <| sn_ret dX0_worth_60 ab_ri_int
set_option maxRecDepth 100000 in
theorem sX0_worth_4 {G : ab_G} {xs : List Int32} {d : Nat} {cal : ab_F} (hcs : ab_CS G (ab_Z G xs) ab_Mf cal d) : ab_Sd G (ab_Z G xs) (d + 1) (ab_mY mX0_worth pX0_worth) 61 (bX0_worth_4 cal) :=
  sn_bipush dX0_worth_61 rfl <| sn_iload_n dX0_worth_63 rfl <| sn_isub dX0_worth_64 <| sn_iconst dX0_worth_65 rfl <| sn_isub dX0_worth_66 <| sn_ret dX0_worth_67 ab_ri_int
set_option maxRecDepth 100000 in
theorem sX0_worth_5 {G : ab_G} {xs : List Int32} {d : Nat} {cal : ab_F} (hcs : ab_CS G (ab_Z G xs) ab_Mf cal d) : ab_Sd G (ab_Z G xs) (d + 1) (ab_mY mX0_worth pX0_worth) 68 (bX0_worth_5 cal) :=
  sn_iconst dX0_worth_68 rfl <| sn_ret dX0_worth_69 ab_ri_int
set_option maxRecDepth 100000 in
theorem sX0_worth_6 {G : ab_G} {xs : List Int32} {d : Nat} {cal : ab_F} (hcs : ab_CS G (ab_Z G xs) ab_Mf cal d) : ab_Sd G (ab_Z G xs) (d + 1) (ab_mY mX0_worth pX0_worth) 70 (bX0_worth_6 cal) :=
  sn_iload_n dX0_worth_70 rfl <| sn_ret dX0_worth_71 ab_ri_int
theorem sX0_worth {G : ab_G} {xs : List Int32} {d : Nat} {cal : ab_F} (hcs : ab_CS G (ab_Z G xs) ab_Mf cal d) : ab_BS G (ab_Z G xs) (d + 1) (ab_mY mX0_worth pX0_worth) pX0_worth (bX0_worth cal) := ⟨sX0_worth_0 hcs, sX0_worth_1 hcs, sX0_worth_2 hcs, sX0_worth_3 hcs, sX0_worth_4 hcs, sX0_worth_5 hcs, sX0_worth_6 hcs, trivial⟩
