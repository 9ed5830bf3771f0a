theorem dgJ11_isValidCodePoint_9a6ad_0 : decode cJ11_isValidCodePoint_9a6ad 0 = .ok (.iload_n 0, 1) ∧ decode cJ11_isValidCodePoint_9a6ad 1 = .ok (.bipush 16, 2) ∧ decode cJ11_isValidCodePoint_9a6ad 3 = .ok (.iushr, 1) ∧ decode cJ11_isValidCodePoint_9a6ad 4 = .ok (.istore_n 1, 1) ∧ decode cJ11_isValidCodePoint_9a6ad 5 = .ok (.iload_n 1, 1) ∧ decode cJ11_isValidCodePoint_9a6ad 6 = .ok (.bipush 17, 2) ∧ decode cJ11_isValidCodePoint_9a6ad 8 = .ok (.if_icmp .ge 7, 3) ∧ decode cJ11_isValidCodePoint_9a6ad 11 = .ok (.iconst 1, 1) ∧ decode cJ11_isValidCodePoint_9a6ad 12 = .ok (.goto 4, 3) ∧ decode cJ11_isValidCodePoint_9a6ad 15 = .ok (.iconst 0, 1) ∧ decode cJ11_isValidCodePoint_9a6ad 16 = .ok (.ireturn, 1) := by decide +kernel
theorem dJ11_isValidCodePoint_9a6ad_0 : decode cJ11_isValidCodePoint_9a6ad 0 = .ok (.iload_n 0, 1) := dgJ11_isValidCodePoint_9a6ad_0.1
theorem dJ11_isValidCodePoint_9a6ad_1 : decode cJ11_isValidCodePoint_9a6ad 1 = .ok (.bipush 16, 2) := dgJ11_isValidCodePoint_9a6ad_0.2.1
theorem dJ11_isValidCodePoint_9a6ad_3 : decode cJ11_isValidCodePoint_9a6ad 3 = .ok (.iushr, 1) := dgJ11_isValidCodePoint_9a6ad_0.2.2.1
theorem dJ11_isValidCodePoint_9a6ad_4 : decode cJ11_isValidCodePoint_9a6ad 4 = .ok (.istore_n 1, 1) := dgJ11_isValidCodePoint_9a6ad_0.2.2.2.1
theorem dJ11_isValidCodePoint_9a6ad_5 : decode cJ11_isValidCodePoint_9a6ad 5 = .ok (.iload_n 1, 1) := dgJ11_isValidCodePoint_9a6ad_0.2.2.2.2.1
theorem dJ11_isValidCodePoint_9a6ad_6 : decode cJ11_isValidCodePoint_9a6ad 6 = .ok (.bipush 17, 2) := dgJ11_isValidCodePoint_9a6ad_0.2.2.2.2.2.1
theorem dJ11_isValidCodePoint_9a6ad_8 : decode cJ11_isValidCodePoint_9a6ad 8 = .ok (.if_icmp .ge 7, 3) := dgJ11_isValidCodePoint_9a6ad_0.2.2.2.2.2.2.1
theorem dJ11_isValidCodePoint_9a6ad_11 : decode cJ11_isValidCodePoint_9a6ad 11 = .ok (.iconst 1, 1) := dgJ11_isValidCodePoint_9a6ad_0.2.2.2.2.2.2.2.1
theorem dJ11_isValidCodePoint_9a6ad_12 : decode cJ11_isValidCodePoint_9a6ad 12 = .ok (.goto 4, 3) := dgJ11_isValidCodePoint_9a6ad_0.2.2.2.2.2.2.2.2.1
theorem dJ11_isValidCodePoint_9a6ad_15 : decode cJ11_isValidCodePoint_9a6ad 15 = .ok (.iconst 0, 1) := dgJ11_isValidCodePoint_9a6ad_0.2.2.2.2.2.2.2.2.2.1
theorem dJ11_isValidCodePoint_9a6ad_16 : decode cJ11_isValidCodePoint_9a6ad 16 = .ok (.ireturn, 1) := dgJ11_isValidCodePoint_9a6ad_0.2.2.2.2.2.2.2.2.2.2
abbrev pJ11_isValidCodePoint_9a6ad : List Nat := [0, 15, 16]
def bJ11_isValidCodePoint_9a6ad_0 (cal : ab_F) : ab_K := o_iload 0 <| o_push (.int 16) <| o_bin (fun x y => (x.toUInt32 >>> (y.toUInt32 &&& Int32.toUInt32 31)).toInt32) <| o_istore 1 <| o_iload 1 <| o_push (.int 17) <| o_cmp (fun x y => decide (y ≤ x)) 1 <| o_push (.int 1) <| o_goto 2
def bJ11_isValidCodePoint_9a6ad_1 (cal : ab_F) : ab_K := o_push (.int 0) <| o_goto 2
def bJ11_isValidCodePoint_9a6ad_2 (cal : ab_F) : ab_K := o_ret (some .boolean)
def bJ11_isValidCodePoint_9a6ad (cal : ab_F) : List ab_K := [bJ11_isValidCodePoint_9a6ad_0 cal, bJ11_isValidCodePoint_9a6ad_1 cal, bJ11_isValidCodePoint_9a6ad_2 cal]
set_option maxRecDepth 100000 in
theorem sJ11_isValidCodePoint_9a6ad_0 {G : ab_G} {xs : List Int32} {d : Nat} {cal : ab_F} (hcs : ab_CS G (ab_Z G xs) ab_Mf cal d) : ab_Sd G (ab_Z G xs) (d + 1) (ab_mY mJ11_isValidCodePoint_9a6ad pJ11_isValidCodePoint_9a6ad) 0 (bJ11_isValidCodePoint_9a6ad_0 cal) :=
  sn_iload_n dJ11_isValidCodePoint_9a6ad_0 rfl <| sn_bipush dJ11_isValidCodePoint_9a6ad_1 rfl <| sn_iushr dJ11_isValidCodePoint_9a6ad_3 <| sn_istore_n dJ11_isValidCodePoint_9a6ad_4 rfl (by decide) <| sn_iload_n dJ11_isValidCodePoint_9a6ad_5 rfl <| sn_bipush dJ11_isValidCodePoint_9a6ad_6 rfl <| sn_cmp_ge (tg := 15) dJ11_isValidCodePoint_9a6ad_8 rfl rfl <| sn_iconst dJ11_isValidCodePoint_9a6ad_11 rfl <| sn_goto (tg := 16) dJ11_isValidCodePoint_9a6ad_12 rfl rfl
set_option maxRecDepth 100000 in
theorem sJ11_isValidCodePoint_9a6ad_1 {G : ab_G} {xs : List Int32} {d : Nat} {cal : ab_F} (hcs : ab_CS G (ab_Z G xs) ab_Mf cal d) : ab_Sd G (ab_Z G xs) (d + 1) (ab_mY mJ11_isValidCodePoint_9a6ad pJ11_isValidCodePoint_9a6ad) 15 (bJ11_isValidCodePoint_9a6ad_1 cal) :=
  sn_iconst dJ11_isValidCodePoint_9a6ad_15 rfl <| sn_next rfl
set_option maxRecDepth 100000 in
theorem sJ11_isValidCodePoint_9a6ad_2 {G : ab_G} {xs : List Int32} {d : Nat} {cal : ab_F} (hcs : ab_CS G (ab_Z G xs) ab_Mf cal d) : ab_Sd G (ab_Z G xs) (d + 1) (ab_mY mJ11_isValidCodePoint_9a6ad pJ11_isValidCodePoint_9a6ad) 16 (bJ11_isValidCodePoint_9a6ad_2 cal) :=
  sn_ret dJ11_isValidCodePoint_9a6ad_16 ab_ri_bool
theorem sJ11_isValidCodePoint_9a6ad {G : ab_G} {xs : List Int32} {d : Nat} {cal : ab_F} (hcs : ab_CS G (ab_Z G xs) ab_Mf cal d) : ab_BS G (ab_Z G xs) (d + 1) (ab_mY mJ11_isValidCodePoint_9a6ad pJ11_isValidCodePoint_9a6ad) pJ11_isValidCodePoint_9a6ad (bJ11_isValidCodePoint_9a6ad cal) := ⟨sJ11_isValidCodePoint_9a6ad_0 hcs, sJ11_isValidCodePoint_9a6ad_1 hcs, sJ11_isValidCodePoint_9a6ad_2 hcs, trivial⟩
theorem dgJ11_highSurrogate_5068e_0 : decode cJ11_highSurrogate_5068e 0 = .ok (.iload_n 0, 1) ∧ decode cJ11_highSurrogate_5068e 1 = .ok (.bipush 10, 2) ∧ decode cJ11_highSurrogate_5068e 3 = .ok (.iushr, 1) ∧ decode cJ11_highSurrogate_5068e 4 = .ok (.ldc 110, 2) ∧ decode cJ11_highSurrogate_5068e 6 = .ok (.iadd, 1) ∧ decode cJ11_highSurrogate_5068e 7 = .ok (.i2c, 1) ∧ decode cJ11_highSurrogate_5068e 8 = .ok (.ireturn, 1) := by decide +kernel
theorem dJ11_highSurrogate_5068e_0 : decode cJ11_highSurrogate_5068e 0 = .ok (.iload_n 0, 1) := dgJ11_highSurrogate_5068e_0.1
theorem dJ11_highSurrogate_5068e_1 : decode cJ11_highSurrogate_5068e 1 = .ok (.bipush 10, 2) := dgJ11_highSurrogate_5068e_0.2.1
theorem dJ11_highSurrogate_5068e_3 : decode cJ11_highSurrogate_5068e 3 = .ok (.iushr, 1) := dgJ11_highSurrogate_5068e_0.2.2.1
theorem dJ11_highSurrogate_5068e_4 : decode cJ11_highSurrogate_5068e 4 = .ok (.ldc 110, 2) := dgJ11_highSurrogate_5068e_0.2.2.2.1
theorem dJ11_highSurrogate_5068e_6 : decode cJ11_highSurrogate_5068e 6 = .ok (.iadd, 1) := dgJ11_highSurrogate_5068e_0.2.2.2.2.1
theorem dJ11_highSurrogate_5068e_7 : decode cJ11_highSurrogate_5068e 7 = .ok (.i2c, 1) := dgJ11_highSurrogate_5068e_0.2.2.2.2.2.1
theorem dJ11_highSurrogate_5068e_8 : decode cJ11_highSurrogate_5068e 8 = .ok (.ireturn, 1) := dgJ11_highSurrogate_5068e_0.2.2.2.2.2.2
abbrev pJ11_highSurrogate_5068e : List Nat := [0]
def bJ11_highSurrogate_5068e_0 (cal : ab_F) : ab_K := o_iload 0 <| o_push (.int 10) <| o_bin (fun x y => (x.toUInt32 >>> (y.toUInt32 &&& Int32.toUInt32 31)).toInt32) <| o_push (.int 55232) <| o_bin (fun x y => x + y) <| o_un (fun x => (x.toUInt32 % 65536).toInt32) <| o_ret (some .char)
def bJ11_highSurrogate_5068e (cal : ab_F) : List ab_K := [bJ11_highSurrogate_5068e_0 cal]
set_option maxRecDepth 100000 in
theorem sJ11_highSurrogate_5068e_0 {G : ab_G} {xs : List Int32} {d : Nat} {cal : ab_F} (hcs : ab_CS G (ab_Z G xs) ab_Mf cal d) : ab_Sd G (ab_Z G xs) (d + 1) (ab_mY mJ11_highSurrogate_5068e pJ11_highSurrogate_5068e) 0 (bJ11_highSurrogate_5068e_0 cal) :=
  sn_iload_n dJ11_highSurrogate_5068e_0 rfl <| sn_bipush dJ11_highSurrogate_5068e_1 rfl <| sn_iushr dJ11_highSurrogate_5068e_3 <| sn_ldc dJ11_highSurrogate_5068e_4 w_829 <| sn_iadd dJ11_highSurrogate_5068e_6 <| sn_i2c dJ11_highSurrogate_5068e_7 <| sn_ret dJ11_highSurrogate_5068e_8 ab_ri_char
theorem sJ11_highSurrogate_5068e {G : ab_G} {xs : List Int32} {d : Nat} {cal : ab_F} (hcs : ab_CS G (ab_Z G xs) ab_Mf cal d) : ab_BS G (ab_Z G xs) (d + 1) (ab_mY mJ11_highSurrogate_5068e pJ11_highSurrogate_5068e) pJ11_highSurrogate_5068e (bJ11_highSurrogate_5068e cal) := ⟨sJ11_highSurrogate_5068e_0 hcs, trivial⟩
theorem dgJ11_lowSurrogate_5068e_0 : decode cJ11_lowSurrogate_5068e 0 = .ok (.iload_n 0, 1) ∧ decode cJ11_lowSurrogate_5068e 1 = .ok (.sipush 1023, 3) ∧ decode cJ11_lowSurrogate_5068e 4 = .ok (.iand, 1) ∧ decode cJ11_lowSurrogate_5068e 5 = .ok (.ldc 76, 2) ∧ decode cJ11_lowSurrogate_5068e 7 = .ok (.iadd, 1) ∧ decode cJ11_lowSurrogate_5068e 8 = .ok (.i2c, 1) ∧ decode cJ11_lowSurrogate_5068e 9 = .ok (.ireturn, 1) := by decide +kernel
theorem dJ11_lowSurrogate_5068e_0 : decode cJ11_lowSurrogate_5068e 0 = .ok (.iload_n 0, 1) := dgJ11_lowSurrogate_5068e_0.1
theorem dJ11_lowSurrogate_5068e_1 : decode cJ11_lowSurrogate_5068e 1 = .ok (.sipush 1023, 3) := dgJ11_lowSurrogate_5068e_0.2.1
theorem dJ11_lowSurrogate_5068e_4 : decode cJ11_lowSurrogate_5068e 4 = .ok (.iand, 1) := dgJ11_lowSurrogate_5068e_0.2.2.1
theorem dJ11_lowSurrogate_5068e_5 : decode cJ11_lowSurrogate_5068e 5 = .ok (.ldc 76, 2) := dgJ11_lowSurrogate_5068e_0.2.2.2.1
theorem dJ11_lowSurrogate_5068e_7 : decode cJ11_lowSurrogate_5068e 7 = .ok (.iadd, 1) := dgJ11_lowSurrogate_5068e_0.2.2.2.2.1
theorem dJ11_lowSurrogate_5068e_8 : decode cJ11_lowSurrogate_5068e 8 = .ok (.i2c, 1) := dgJ11_lowSurrogate_5068e_0.2.2.2.2.2.1
theorem dJ11_lowSurrogate_5068e_9 : decode cJ11_lowSurrogate_5068e 9 = .ok (.ireturn, 1) := dgJ11_lowSurrogate_5068e_0.2.2.2.2.2.2
abbrev pJ11_lowSurrogate_5068e : List Nat := [0]
def bJ11_lowSurrogate_5068e_0 (cal : ab_F) : ab_K := o_iload 0 <| o_push (.int 1023) <| o_bin (fun x y => x &&& y) <| o_push (.int 56320) <| o_bin (fun x y => x + y) <| o_un (fun x => (x.toUInt32 % 65536).toInt32) <| o_ret (some .char)
def bJ11_lowSurrogate_5068e (cal : ab_F) : List ab_K := [bJ11_lowSurrogate_5068e_0 cal]
set_option maxRecDepth 100000 in
theorem sJ11_lowSurrogate_5068e_0 {G : ab_G} {xs : List Int32} {d : Nat} {cal : ab_F} (hcs : ab_CS G (ab_Z G xs) ab_Mf cal d) : ab_Sd G (ab_Z G xs) (d + 1) (ab_mY mJ11_lowSurrogate_5068e pJ11_lowSurrogate_5068e) 0 (bJ11_lowSurrogate_5068e_0 cal) :=
  sn_iload_n dJ11_lowSurrogate_5068e_0 rfl <| sn_sipush dJ11_lowSurrogate_5068e_1 rfl <| sn_iand dJ11_lowSurrogate_5068e_4 <| sn_ldc dJ11_lowSurrogate_5068e_5 w_833 <| sn_iadd dJ11_lowSurrogate_5068e_7 <| sn_i2c dJ11_lowSurrogate_5068e_8 <| sn_ret dJ11_lowSurrogate_5068e_9 ab_ri_char
theorem sJ11_lowSurrogate_5068e {G : ab_G} {xs : List Int32} {d : Nat} {cal : ab_F} (hcs : ab_CS G (ab_Z G xs) ab_Mf cal d) : ab_BS G (ab_Z G xs) (d + 1) (ab_mY mJ11_lowSurrogate_5068e pJ11_lowSurrogate_5068e) pJ11_lowSurrogate_5068e (bJ11_lowSurrogate_5068e cal) := ⟨sJ11_lowSurrogate_5068e_0 hcs, trivial⟩
theorem dgJ6_bitCount_0f7a4_0 : decode cJ6_bitCount_0f7a4 0 = .ok (.iload_n 0, 1) ∧ decode cJ6_bitCount_0f7a4 1 = .ok (.iload_n 0, 1) ∧ decode cJ6_bitCount_0f7a4 2 = .ok (.iconst 1, 1) ∧ decode cJ6_bitCount_0f7a4 3 = .ok (.iushr, 1) ∧ decode cJ6_bitCount_0f7a4 4 = .ok (.ldc_w 265, 3) ∧ decode cJ6_bitCount_0f7a4 7 = .ok (.iand, 1) ∧ decode cJ6_bitCount_0f7a4 8 = .ok (.isub, 1) ∧ decode cJ6_bitCount_0f7a4 9 = .ok (.istore_n 0, 1) ∧ decode cJ6_bitCount_0f7a4 10 = .ok (.iload_n 0, 1) ∧ decode cJ6_bitCount_0f7a4 11 = .ok (.ldc_w 266, 3) ∧ decode cJ6_bitCount_0f7a4 14 = .ok (.iand, 1) ∧ decode cJ6_bitCount_0f7a4 15 = .ok (.iload_n 0, 1) ∧ decode cJ6_bitCount_0f7a4 16 = .ok (.iconst 2, 1) ∧ decode cJ6_bitCount_0f7a4 17 = .ok (.iushr, 1) ∧ decode cJ6_bitCount_0f7a4 18 = .ok (.ldc_w 266, 3) ∧ decode cJ6_bitCount_0f7a4 21 = .ok (.iand, 1) := by decide +kernel
theorem dJ6_bitCount_0f7a4_0 : decode cJ6_bitCount_0f7a4 0 = .ok (.iload_n 0, 1) := dgJ6_bitCount_0f7a4_0.1
theorem dJ6_bitCount_0f7a4_1 : decode cJ6_bitCount_0f7a4 1 = .ok (.iload_n 0, 1) := dgJ6_bitCount_0f7a4_0.2.1
theorem dJ6_bitCount_0f7a4_2 : decode cJ6_bitCount_0f7a4 2 = .ok (.iconst 1, 1) := dgJ6_bitCount_0f7a4_0.2.2.1
theorem dJ6_bitCount_0f7a4_3 : decode cJ6_bitCount_0f7a4 3 = .ok (.iushr, 1) := dgJ6_bitCount_0f7a4_0.2.2.2.1
theorem dJ6_bitCount_0f7a4_4 : decode cJ6_bitCount_0f7a4 4 = .ok (.ldc_w 265, 3) := dgJ6_bitCount_0f7a4_0.2.2.2.2.1
theorem dJ6_bitCount_0f7a4_7 : decode cJ6_bitCount_0f7a4 7 = .ok (.iand, 1) := dgJ6_bitCount_0f7a4_0.2.2.2.2.2.1
theorem dJ6_bitCount_0f7a4_8 : decode cJ6_bitCount_0f7a4 8 = .ok (.isub, 1) := dgJ6_bitCount_0f7a4_0.2.2.2.2.2.2.1
theorem dJ6_bitCount_0f7a4_9 : decode cJ6_bitCount_0f7a4 9 = .ok (.istore_n 0, 1) := dgJ6_bitCount_0f7a4_0.2.2.2.2.2.2.2.1
theorem dJ6_bitCount_0f7a4_10 : decode cJ6_bitCount_0f7a4 10 = .ok (.iload_n 0, 1) := dgJ6_bitCount_0f7a4_0.2.2.2.2.2.2.2.2.1
theorem dJ6_bitCount_0f7a4_11 : decode cJ6_bitCount_0f7a4 11 = .ok (.ldc_w 266, 3) := dgJ6_bitCount_0f7a4_0.2.2.2.2.2.2.2.2.2.1
theorem dJ6_bitCount_0f7a4_14 : decode cJ6_bitCount_0f7a4 14 = .ok (.iand, 1) := dgJ6_bitCount_0f7a4_0.2.2.2.2.2.2.2.2.2.2.1
theorem dJ6_bitCount_0f7a4_15 : decode cJ6_bitCount_0f7a4 15 = .ok (.iload_n 0, 1) := dgJ6_bitCount_0f7a4_0.2.2.2.2.2.2.2.2.2.2.2.1
theorem dJ6_bitCount_0f7a4_16 : decode cJ6_bitCount_0f7a4 16 = .ok (.iconst 2, 1) := dgJ6_bitCount_0f7a4_0.2.2.2.2.2.2.2.2.2.2.2.2.1
theorem dJ6_bitCount_0f7a4_17 : decode cJ6_bitCount_0f7a4 17 = .ok (.iushr, 1) := dgJ6_bitCount_0f7a4_0.2.2.2.2.2.2.2.2.2.2.2.2.2.1
theorem dJ6_bitCount_0f7a4_18 : decode cJ6_bitCount_0f7a4 18 = .ok (.ldc_w 266, 3) := dgJ6_bitCount_0f7a4_0.2.2.2.2.2.2.2.2.2.2.2.2.2.2.1
theorem dJ6_bitCount_0f7a4_21 : decode cJ6_bitCount_0f7a4 21 = .ok (.iand, 1) := dgJ6_bitCount_0f7a4_0.2.2.2.2.2.2.2.2.2.2.2.2.2.2.2
theorem dgJ6_bitCount_0f7a4_1 : decode cJ6_bitCount_0f7a4 22 = .ok (.iadd, 1) ∧ decode cJ6_bitCount_0f7a4 23 = .ok (.istore_n 0, 1) ∧ decode cJ6_bitCount_0f7a4 24 = .ok (.iload_n 0, 1) ∧ decode cJ6_bitCount_0f7a4 25 = .ok (.iload_n 0, 1) ∧ decode cJ6_bitCount_0f7a4 26 = .ok (.iconst 4, 1) ∧ decode cJ6_bitCount_0f7a4 27 = .ok (.iushr, 1) ∧ decode cJ6_bitCount_0f7a4 28 = .ok (.iadd, 1) ∧ decode cJ6_bitCount_0f7a4 29 = .ok (.ldc_w 267, 3) ∧ decode cJ6_bitCount_0f7a4 32 = .ok (.iand, 1) ∧ decode cJ6_bitCount_0f7a4 33 = .ok (.istore_n 0, 1) ∧ decode cJ6_bitCount_0f7a4 34 = .ok (.iload_n 0, 1) ∧ decode cJ6_bitCount_0f7a4 35 = .ok (.iload_n 0, 1) ∧ decode cJ6_bitCount_0f7a4 36 = .ok (.bipush 8, 2) ∧ decode cJ6_bitCount_0f7a4 38 = .ok (.iushr, 1) ∧ decode cJ6_bitCount_0f7a4 39 = .ok (.iadd, 1) ∧ decode cJ6_bitCount_0f7a4 40 = .ok (.istore_n 0, 1) := by decide +kernel
theorem dJ6_bitCount_0f7a4_22 : decode cJ6_bitCount_0f7a4 22 = .ok (.iadd, 1) := dgJ6_bitCount_0f7a4_1.1
theorem dJ6_bitCount_0f7a4_23 : decode cJ6_bitCount_0f7a4 23 = .ok (.istore_n 0, 1) := dgJ6_bitCount_0f7a4_1.2.1
theorem dJ6_bitCount_0f7a4_24 : decode cJ6_bitCount_0f7a4 24 = .ok (.iload_n 0, 1) := dgJ6_bitCount_0f7a4_1.2.2.1
theorem dJ6_bitCount_0f7a4_25 : decode cJ6_bitCount_0f7a4 25 = .ok (.iload_n 0, 1) := dgJ6_bitCount_0f7a4_1.2.2.2.1
theorem dJ6_bitCount_0f7a4_26 : decode cJ6_bitCount_0f7a4 26 = .ok (.iconst 4, 1) := dgJ6_bitCount_0f7a4_1.2.2.2.2.1
theorem dJ6_bitCount_0f7a4_27 : decode cJ6_bitCount_0f7a4 27 = .ok (.iushr, 1) := dgJ6_bitCount_0f7a4_1.2.2.2.2.2.1
theorem dJ6_bitCount_0f7a4_28 : decode cJ6_bitCount_0f7a4 28 = .ok (.iadd, 1) := dgJ6_bitCount_0f7a4_1.2.2.2.2.2.2.1
theorem dJ6_bitCount_0f7a4_29 : decode cJ6_bitCount_0f7a4 29 = .ok (.ldc_w 267, 3) := dgJ6_bitCount_0f7a4_1.2.2.2.2.2.2.2.1
theorem dJ6_bitCount_0f7a4_32 : decode cJ6_bitCount_0f7a4 32 = .ok (.iand, 1) := dgJ6_bitCount_0f7a4_1.2.2.2.2.2.2.2.2.1
theorem dJ6_bitCount_0f7a4_33 : decode cJ6_bitCount_0f7a4 33 = .ok (.istore_n 0, 1) := dgJ6_bitCount_0f7a4_1.2.2.2.2.2.2.2.2.2.1
theorem dJ6_bitCount_0f7a4_34 : decode cJ6_bitCount_0f7a4 34 = .ok (.iload_n 0, 1) := dgJ6_bitCount_0f7a4_1.2.2.2.2.2.2.2.2.2.2.1
theorem dJ6_bitCount_0f7a4_35 : decode cJ6_bitCount_0f7a4 35 = .ok (.iload_n 0, 1) := dgJ6_bitCount_0f7a4_1.2.2.2.2.2.2.2.2.2.2.2.1
theorem dJ6_bitCount_0f7a4_36 : decode cJ6_bitCount_0f7a4 36 = .ok (.bipush 8, 2) := dgJ6_bitCount_0f7a4_1.2.2.2.2.2.2.2.2.2.2.2.2.1
theorem dJ6_bitCount_0f7a4_38 : decode cJ6_bitCount_0f7a4 38 = .ok (.iushr, 1) := dgJ6_bitCount_0f7a4_1.2.2.2.2.2.2.2.2.2.2.2.2.2.1
theorem dJ6_bitCount_0f7a4_39 : decode cJ6_bitCount_0f7a4 39 = .ok (.iadd, 1) := dgJ6_bitCount_0f7a4_1.2.2.2.2.2.2.2.2.2.2.2.2.2.2.1
theorem dJ6_bitCount_0f7a4_40 : decode cJ6_bitCount_0f7a4 40 = .ok (.istore_n 0, 1) := dgJ6_bitCount_0f7a4_1.2.2.2.2.2.2.2.2.2.2.2.2.2.2.2
theorem dgJ6_bitCount_0f7a4_2 : decode cJ6_bitCount_0f7a4 41 = .ok (.iload_n 0, 1) ∧ decode cJ6_bitCount_0f7a4 42 = .ok (.iload_n 0, 1) ∧ decode cJ6_bitCount_0f7a4 43 = .ok (.bipush 16, 2) ∧ decode cJ6_bitCount_0f7a4 45 = .ok (.iushr, 1) ∧ decode cJ6_bitCount_0f7a4 46 = .ok (.iadd, 1) ∧ decode cJ6_bitCount_0f7a4 47 = .ok (.istore_n 0, 1) ∧ decode cJ6_bitCount_0f7a4 48 = .ok (.iload_n 0, 1) ∧ decode cJ6_bitCount_0f7a4 49 = .ok (.bipush 63, 2) ∧ decode cJ6_bitCount_0f7a4 51 = .ok (.iand, 1) ∧ decode cJ6_bitCount_0f7a4 52 = .ok (.ireturn, 1) := by decide +kernel
theorem dJ6_bitCount_0f7a4_41 : decode cJ6_bitCount_0f7a4 41 = .ok (.iload_n 0, 1) := dgJ6_bitCount_0f7a4_2.1
theorem dJ6_bitCount_0f7a4_42 : decode cJ6_bitCount_0f7a4 42 = .ok (.iload_n 0, 1) := dgJ6_bitCount_0f7a4_2.2.1
theorem dJ6_bitCount_0f7a4_43 : decode cJ6_bitCount_0f7a4 43 = .ok (.bipush 16, 2) := dgJ6_bitCount_0f7a4_2.2.2.1
theorem dJ6_bitCount_0f7a4_45 : decode cJ6_bitCount_0f7a4 45 = .ok (.iushr, 1) := dgJ6_bitCount_0f7a4_2.2.2.2.1
theorem dJ6_bitCount_0f7a4_46 : decode cJ6_bitCount_0f7a4 46 = .ok (.iadd, 1) := dgJ6_bitCount_0f7a4_2.2.2.2.2.1
theorem dJ6_bitCount_0f7a4_47 : decode cJ6_bitCount_0f7a4 47 = .ok (.istore_n 0, 1) := dgJ6_bitCount_0f7a4_2.2.2.2.2.2.1
theorem dJ6_bitCount_0f7a4_48 : decode cJ6_bitCount_0f7a4 48 = .ok (.iload_n 0, 1) := dgJ6_bitCount_0f7a4_2.2.2.2.2.2.2.1
theorem dJ6_bitCount_0f7a4_49 : decode cJ6_bitCount_0f7a4 49 = .ok (.bipush 63, 2) := dgJ6_bitCount_0f7a4_2.2.2.2.2.2.2.2.1
theorem dJ6_bitCount_0f7a4_51 : decode cJ6_bitCount_0f7a4 51 = .ok (.iand, 1) := dgJ6_bitCount_0f7a4_2.2.2.2.2.2.2.2.2.1
theorem dJ6_bitCount_0f7a4_52 : decode cJ6_bitCount_0f7a4 52 = .ok (.ireturn, 1) := dgJ6_bitCount_0f7a4_2.2.2.2.2.2.2.2.2.2
abbrev pJ6_bitCount_0f7a4 : List Nat := [0]
def bJ6_bitCount_0f7a4_0 (cal : ab_F) : ab_K := o_iload 0 <| o_iload 0 <| o_push (.int 1) <| o_bin (fun x y => (x.toUInt32 >>> (y.toUInt32 &&& Int32.toUInt32 31)).toInt32) <| o_push (.int 1431655765) <| o_bin (fun x y => x &&& y) <| o_bin (fun x y => x - y) <| o_istore 0 <| o_iload 0 <| o_push (.int 858993459) <| o_bin (fun x y => x &&& y) <| o_iload 0 <| o_push (.int 2) <| o_bin (fun x y => (x.toUInt32 >>> (y.toUInt32 &&& Int32.toUInt32 31)).toInt32) <| o_push (.int 858993459) <| o_bin (fun x y => x &&& y) <| o_bin (fun x y => x + y) <| o_istore 0 <| o_iload 0 <| o_iload 0 <| o_push (.int 4) <| o_bin (fun x y => (x.toUInt32 >>> (y.toUInt32 &&& Int32.toUInt32 31)).toInt32) <| o_bin (fun x y => x + y) <| o_push (.int 252645135) <| o_bin (fun x y => x &&& y) <| o_istore 0 <| o_iload 0 <| o_iload 0 <| o_push (.int 8) <| o_bin (fun x y => (x.toUInt32 >>> (y.toUInt32 &&& Int32.toUInt32 31)).toInt32) <| o_bin (fun x y => x + y) <| o_istore 0 <| o_iload 0 <| o_iload 0 <| o_push (.int 16) <| o_bin (fun x y => (x.toUInt32 >>> (y.toUInt32 &&& Int32.toUInt32 31)).toInt32) <| o_bin (fun x y => x + y) <| o_istore 0 <| o_iload 0 <| o_push (.int 63) <| o_bin (fun x y => x &&& y) <| o_ret (some .int)
def bJ6_bitCount_0f7a4 (cal : ab_F) : List ab_K := [bJ6_bitCount_0f7a4_0 cal]
set_option maxRecDepth 100000 in
theorem sJ6_bitCount_0f7a4_0 {G : ab_G} {xs : List Int32} {d : Nat} {cal : ab_F} (hcs : ab_CS G (ab_Z G xs) ab_Mf cal d) : ab_Sd G (ab_Z G xs) (d + 1) (ab_mY mJ6_bitCount_0f7a4 pJ6_bitCount_0f7a4) 0 (bJ6_bitCount_0f7a4_0 cal) :=
  sn_iload_n dJ6_bitCount_0f7a4_0 rfl <| sn_iload_n dJ6_bitCount_0f7a4_1 rfl <| sn_iconst dJ6_bitCount_0f7a4_2 rfl <| sn_iushr dJ6_bitCount_0f7a4_3 <| sn_ldcw dJ6_bitCount_0f7a4_4 w_481 <| sn_iand dJ6_bitCount_0f7a4_7 <| sn_isub dJ6_bitCount_0f7a4_8 <| sn_istore_n dJ6_bitCount_0f7a4_9 rfl (by decide) <| sn_iload_n dJ6_bitCount_0f7a4_10 rfl <| sn_ldcw dJ6_bitCount_0f7a4_11 w_482 <| sn_iand dJ6_bitCount_0f7a4_14 <| sn_iload_n dJ6_bitCount_0f7a4_15 rfl <| sn_iconst dJ6_bitCount_0f7a4_16 rfl <| sn_iushr dJ6_bitCount_0f7a4_17 <| sn_ldcw dJ6_bitCount_0f7a4_18 w_482 <| sn_iand dJ6_bitCount_0f7a4_21 <| sn_iadd dJ6_bitCount_0f7a4_22 <| sn_istore_n dJ6_bitCount_0f7a4_23 rfl (by decide) <| sn_iload_n dJ6_bitCount_0f7a4_24 rfl <| sn_iload_n dJ6_bitCount_0f7a4_25 rfl <| sn_iconst dJ6_bitCount_0f7a4_26 rfl <| sn_iushr dJ6_bitCount_0f7a4_27 <| sn_iadd dJ6_bitCount_0f7a4_28 <| sn_ldcw dJ6_bitCount_0f7a4_29 w_483 <| sn_iand dJ6_bitCount_0f7a4_32 <| sn_istore_n dJ6_bitCount_0f7a4_33 rfl (by decide) <| sn_iload_n dJ6_bitCount_0f7a4_34 rfl <| sn_iload_n dJ6_bitCount_0f7a4_35 rfl <| sn_bipush dJ6_bitCount_0f7a4_36 rfl <| sn_iushr dJ6_bitCount_0f7a4_38 <| sn_iadd dJ6_bitCount_0f7a4_39 <| sn_istore_n dJ6_bitCount_0f7a4_40 rfl (by decide) <| sn_iload_n dJ6_bitCount_0f7a4_41 rfl <| sn_iload_n dJ6_bitCount_0f7a4_42 rfl <| sn_bipush dJ6_bitCount_0f7a4_43 rfl <| sn_iushr dJ6_bitCount_0f7a4_45 <| sn_iadd dJ6_bitCount_0f7a4_46 <| sn_istore_n dJ6_bitCount_0f7a4_47 rfl (by decide) <| sn_iload_n dJ6_bitCount_0f7a4_48 rfl <| sn_bipush dJ6_bitCount_0f7a4_49 rfl <| sn_iand dJ6_bitCount_0f7a4_51 <| sn_ret dJ6_bitCount_0f7a4_52 ab_ri_int
theorem sJ6_bitCount_0f7a4 {G : ab_G} {xs : List Int32} {d : Nat} {cal : ab_F} (hcs : ab_CS G (ab_Z G xs) ab_Mf cal d) : ab_BS G (ab_Z G xs) (d + 1) (ab_mY mJ6_bitCount_0f7a4 pJ6_bitCount_0f7a4) pJ6_bitCount_0f7a4 (bJ6_bitCount_0f7a4 cal) := ⟨sJ6_bitCount_0f7a4_0 hcs, trivial⟩
theorem dgJ0_length_8abf5_0 : decode cJ0_length_8abf5 0 = .ok (.aload_n 0, 1) ∧ decode cJ0_length_8abf5 1 = .ok (.getfield 9, 3) ∧ decode cJ0_length_8abf5 4 = .ok (.arraylength, 1) ∧ decode cJ0_length_8abf5 5 = .ok (.aload_n 0, 1) ∧ decode cJ0_length_8abf5 6 = .ok (.invokevirtual 335, 3) ∧ decode cJ0_length_8abf5 9 = .ok (.ishr, 1) ∧ decode cJ0_length_8abf5 10 = .ok (.ireturn, 1) := by decide +kernel
theorem dJ0_length_8abf5_0 : decode cJ0_length_8abf5 0 = .ok (.aload_n 0, 1) := dgJ0_length_8abf5_0.1
theorem dJ0_length_8abf5_1 : decode cJ0_length_8abf5 1 = .ok (.getfield 9, 3) := dgJ0_length_8abf5_0.2.1
theorem dJ0_length_8abf5_4 : decode cJ0_length_8abf5 4 = .ok (.arraylength, 1) := dgJ0_length_8abf5_0.2.2.1
theorem dJ0_length_8abf5_5 : decode cJ0_length_8abf5 5 = .ok (.aload_n 0, 1) := dgJ0_length_8abf5_0.2.2.2.1
theorem dJ0_length_8abf5_6 : decode cJ0_length_8abf5 6 = .ok (.invokevirtual 335, 3) := dgJ0_length_8abf5_0.2.2.2.2.1
theorem dJ0_length_8abf5_9 : decode cJ0_length_8abf5 9 = .ok (.ishr, 1) := dgJ0_length_8abf5_0.2.2.2.2.2.1
theorem dJ0_length_8abf5_10 : decode cJ0_length_8abf5 10 = .ok (.ireturn, 1) := dgJ0_length_8abf5_0.2.2.2.2.2.2
abbrev pJ0_length_8abf5 : List Nat := [0]
def bJ0_length_8abf5_0 (cal : ab_F) : ab_K := o_aload 0 <| o_sval <| o_sblen <| o_aload 0 <| o_callX cal 233 0 <| o_bin (fun x y => x >>> (y &&& 31)) <| o_ret (some .int)
def bJ0_length_8abf5 (cal : ab_F) : List ab_K := [bJ0_length_8abf5_0 cal]
set_option maxRecDepth 100000 in
theorem sJ0_length_8abf5_0 {G : ab_G} {xs : List Int32} {d : Nat} {cal : ab_F} (hcs : ab_CS G (ab_Z G xs) ab_Mf cal d) : ab_Sd G (ab_Z G xs) (d + 1) (ab_mY mJ0_length_8abf5 pJ0_length_8abf5) 0 (bJ0_length_8abf5_0 cal) :=
  sn_aload_n dJ0_length_8abf5_0 rfl <| sn_sval dJ0_length_8abf5_1 w_1478 (fun U h => h.2.2.2.2.2.2.1) <| sn_sblen dJ0_length_8abf5_4 (fun U h => h.2.2.2.2.2.2.1) <| sn_aload_n dJ0_length_8abf5_5 rfl <| sq_callX mt_233 hcs dJ0_length_8abf5_6 (fun U h => h.2.2.2.2.2.2.1) w_698 w_699 w_700 w_69 w_701 hy_233 hm_233 <| sn_ishr dJ0_length_8abf5_9 <| sn_ret dJ0_length_8abf5_10 ab_ri_int
theorem sJ0_length_8abf5 {G : ab_G} {xs : List Int32} {d : Nat} {cal : ab_F} (hcs : ab_CS G (ab_Z G xs) ab_Mf cal d) : ab_BS G (ab_Z G xs) (d + 1) (ab_mY mJ0_length_8abf5 pJ0_length_8abf5) pJ0_length_8abf5 (bJ0_length_8abf5 cal) := ⟨sJ0_length_8abf5_0 hcs, trivial⟩
theorem dgJ0_charAt_5068e_0 : decode cJ0_charAt_5068e 0 = .ok (.aload_n 0, 1) ∧ decode cJ0_charAt_5068e 1 = .ok (.invokevirtual 492, 3) ∧ decode cJ0_charAt_5068e 4 = .ok (.ifCond .eq 12, 3) ∧ decode cJ0_charAt_5068e 7 = .ok (.aload_n 0, 1) ∧ decode cJ0_charAt_5068e 8 = .ok (.getfield 9, 3) ∧ decode cJ0_charAt_5068e 11 = .ok (.iload_n 1, 1) ∧ decode cJ0_charAt_5068e 12 = .ok (.invokestatic 495, 3) ∧ decode cJ0_charAt_5068e 15 = .ok (.ireturn, 1) ∧ decode cJ0_charAt_5068e 16 = .ok (.aload_n 0, 1) ∧ decode cJ0_charAt_5068e 17 = .ok (.getfield 9, 3) ∧ decode cJ0_charAt_5068e 20 = .ok (.iload_n 1, 1) ∧ decode cJ0_charAt_5068e 21 = .ok (.invokestatic 498, 3) ∧ decode cJ0_charAt_5068e 24 = .ok (.ireturn, 1) := by decide +kernel
theorem dJ0_charAt_5068e_0 : decode cJ0_charAt_5068e 0 = .ok (.aload_n 0, 1) := dgJ0_charAt_5068e_0.1
theorem dJ0_charAt_5068e_1 : decode cJ0_charAt_5068e 1 = .ok (.invokevirtual 492, 3) := dgJ0_charAt_5068e_0.2.1
theorem dJ0_charAt_5068e_4 : decode cJ0_charAt_5068e 4 = .ok (.ifCond .eq 12, 3) := dgJ0_charAt_5068e_0.2.2.1
theorem dJ0_charAt_5068e_7 : decode cJ0_charAt_5068e 7 = .ok (.aload_n 0, 1) := dgJ0_charAt_5068e_0.2.2.2.1
theorem dJ0_charAt_5068e_8 : decode cJ0_charAt_5068e 8 = .ok (.getfield 9, 3) := dgJ0_charAt_5068e_0.2.2.2.2.1
theorem dJ0_charAt_5068e_11 : decode cJ0_charAt_5068e 11 = .ok (.iload_n 1, 1) := dgJ0_charAt_5068e_0.2.2.2.2.2.1
theorem dJ0_charAt_5068e_12 : decode cJ0_charAt_5068e 12 = .ok (.invokestatic 495, 3) := dgJ0_charAt_5068e_0.2.2.2.2.2.2.1
theorem dJ0_charAt_5068e_15 : decode cJ0_charAt_5068e 15 = .ok (.ireturn, 1) := dgJ0_charAt_5068e_0.2.2.2.2.2.2.2.1
theorem dJ0_charAt_5068e_16 : decode cJ0_charAt_5068e 16 = .ok (.aload_n 0, 1) := dgJ0_charAt_5068e_0.2.2.2.2.2.2.2.2.1
theorem dJ0_charAt_5068e_17 : decode cJ0_charAt_5068e 17 = .ok (.getfield 9, 3) := dgJ0_charAt_5068e_0.2.2.2.2.2.2.2.2.2.1
theorem dJ0_charAt_5068e_20 : decode cJ0_charAt_5068e 20 = .ok (.iload_n 1, 1) := dgJ0_charAt_5068e_0.2.2.2.2.2.2.2.2.2.2.1
abbrev pJ0_charAt_5068e : List Nat := [0, 16]
def bJ0_charAt_5068e_0 (cal : ab_F) : ab_K := o_aload 0 <| o_callX cal 234 0 <| o_if (fun x => decide (x = 0)) 1 <| o_aload 0 <| o_sval <| o_iload 1 <| o_callS cal 237 2 <| o_ret (some .char)
def bJ0_charAt_5068e_1 (cal : ab_F) : ab_K := o_aload 0 <| o_sval <| o_iload 1 <| (fun _ _ _ => none)
def bJ0_charAt_5068e (cal : ab_F) : List ab_K := [bJ0_charAt_5068e_0 cal, bJ0_charAt_5068e_1 cal]
set_option maxRecDepth 100000 in
theorem sJ0_charAt_5068e_0 {G : ab_G} {xs : List Int32} {d : Nat} {cal : ab_F} (hcs : ab_CS G (ab_Z G xs) ab_Mf cal d) : ab_Sd G (ab_Z G xs) (d + 1) (ab_mY mJ0_charAt_5068e pJ0_charAt_5068e) 0 (bJ0_charAt_5068e_0 cal) :=
  sn_aload_n dJ0_charAt_5068e_0 rfl <| sq_callX mt_234 hcs dJ0_charAt_5068e_1 (fun U h => h.2.2.2.2.2.2.1) w_708 w_709 w_710 w_69 w_711 hy_234 hm_234 <| sn_if_eq (tg := 16) dJ0_charAt_5068e_4 rfl rfl <| sn_aload_n dJ0_charAt_5068e_7 rfl <| sn_sval dJ0_charAt_5068e_8 w_1478 (fun U h => h.2.2.2.2.2.2.1) <| sn_iload_n dJ0_charAt_5068e_11 rfl <| sq_callS mt_237 hcs dJ0_charAt_5068e_12 w_712 w_713 w_70 w_714 hy_237 hm_237 <| sn_ret dJ0_charAt_5068e_15 ab_ri_char
set_option maxRecDepth 100000 in
theorem sJ0_charAt_5068e_1 {G : ab_G} {xs : List Int32} {d : Nat} {cal : ab_F} (hcs : ab_CS G (ab_Z G xs) ab_Mf cal d) : ab_Sd G (ab_Z G xs) (d + 1) (ab_mY mJ0_charAt_5068e pJ0_charAt_5068e) 16 (bJ0_charAt_5068e_1 cal) :=
  sn_aload_n dJ0_charAt_5068e_16 rfl <| sn_sval dJ0_charAt_5068e_17 w_1478 (fun U h => h.2.2.2.2.2.2.1) <| sn_iload_n dJ0_charAt_5068e_20 rfl <| ab_Sd.fail
theorem sJ0_charAt_5068e {G : ab_G} {xs : List Int32} {d : Nat} {cal : ab_F} (hcs : ab_CS G (ab_Z G xs) ab_Mf cal d) : ab_BS G (ab_Z G xs) (d + 1) (ab_mY mJ0_charAt_5068e pJ0_charAt_5068e) pJ0_charAt_5068e (bJ0_charAt_5068e cal) := ⟨sJ0_charAt_5068e_0 hcs, sJ0_charAt_5068e_1 hcs, trivial⟩
theorem dgJ0_indexOf_0f7a4_0 : decode cJ0_indexOf_0f7a4 0 = .ok (.aload_n 0, 1) ∧ decode cJ0_indexOf_0f7a4 1 = .ok (.iload_n 1, 1) ∧ decode cJ0_indexOf_0f7a4 2 = .ok (.iconst 0, 1) ∧ decode cJ0_indexOf_0f7a4 3 = .ok (.invokevirtual 633, 3) ∧ decode cJ0_indexOf_0f7a4 6 = .ok (.ireturn, 1) := by decide +kernel
theorem dJ0_indexOf_0f7a4_0 : decode cJ0_indexOf_0f7a4 0 = .ok (.aload_n 0, 1) := dgJ0_indexOf_0f7a4_0.1
theorem dJ0_indexOf_0f7a4_1 : decode cJ0_indexOf_0f7a4 1 = .ok (.iload_n 1, 1) := dgJ0_indexOf_0f7a4_0.2.1
theorem dJ0_indexOf_0f7a4_2 : decode cJ0_indexOf_0f7a4 2 = .ok (.iconst 0, 1) := dgJ0_indexOf_0f7a4_0.2.2.1
theorem dJ0_indexOf_0f7a4_3 : decode cJ0_indexOf_0f7a4 3 = .ok (.invokevirtual 633, 3) := dgJ0_indexOf_0f7a4_0.2.2.2.1
theorem dJ0_indexOf_0f7a4_6 : decode cJ0_indexOf_0f7a4 6 = .ok (.ireturn, 1) := dgJ0_indexOf_0f7a4_0.2.2.2.2
abbrev pJ0_indexOf_0f7a4 : List Nat := [0]
def bJ0_indexOf_0f7a4_0 (cal : ab_F) : ab_K := o_aload 0 <| o_iload 1 <| o_push (.int 0) <| o_callX cal 232 2 <| o_ret (some .int)
def bJ0_indexOf_0f7a4 (cal : ab_F) : List ab_K := [bJ0_indexOf_0f7a4_0 cal]
set_option maxRecDepth 100000 in
theorem sJ0_indexOf_0f7a4_0 {G : ab_G} {xs : List Int32} {d : Nat} {cal : ab_F} (hcs : ab_CS G (ab_Z G xs) ab_Mf cal d) : ab_Sd G (ab_Z G xs) (d + 1) (ab_mY mJ0_indexOf_0f7a4 pJ0_indexOf_0f7a4) 0 (bJ0_indexOf_0f7a4_0 cal) :=
  sn_aload_n dJ0_indexOf_0f7a4_0 rfl <| sn_iload_n dJ0_indexOf_0f7a4_1 rfl <| sn_iconst dJ0_indexOf_0f7a4_2 rfl <| sq_callX mt_232 hcs dJ0_indexOf_0f7a4_3 (fun U h => h.2.2.2.2.2.2.1) w_783 w_784 w_785 w_69 w_786 hy_232 hm_232 <| sn_ret dJ0_indexOf_0f7a4_6 ab_ri_int
theorem sJ0_indexOf_0f7a4 {G : ab_G} {xs : List Int32} {d : Nat} {cal : ab_F} (hcs : ab_CS G (ab_Z G xs) ab_Mf cal d) : ab_BS G (ab_Z G xs) (d + 1) (ab_mY mJ0_indexOf_0f7a4 pJ0_indexOf_0f7a4) pJ0_indexOf_0f7a4 (bJ0_indexOf_0f7a4 cal) := ⟨sJ0_indexOf_0f7a4_0 hcs, trivial⟩
theorem dgJ0_indexOf_7cf53_0 : decode cJ0_indexOf_7cf53 0 = .ok (.aload_n 0, 1) ∧ decode cJ0_indexOf_7cf53 1 = .ok (.invokevirtual 492, 3) ∧ decode cJ0_indexOf_7cf53 4 = .ok (.ifCond .eq 19, 3) ∧ decode cJ0_indexOf_7cf53 7 = .ok (.aload_n 0, 1) ∧ decode cJ0_indexOf_7cf53 8 = .ok (.getfield 9, 3) ∧ decode cJ0_indexOf_7cf53 11 = .ok (.iload_n 1, 1) ∧ decode cJ0_indexOf_7cf53 12 = .ok (.iload_n 2, 1) ∧ decode cJ0_indexOf_7cf53 13 = .ok (.aload_n 0, 1) ∧ decode cJ0_indexOf_7cf53 14 = .ok (.invokevirtual 505, 3) ∧ decode cJ0_indexOf_7cf53 17 = .ok (.invokestatic 637, 3) ∧ decode cJ0_indexOf_7cf53 20 = .ok (.goto 16, 3) ∧ decode cJ0_indexOf_7cf53 23 = .ok (.aload_n 0, 1) ∧ decode cJ0_indexOf_7cf53 24 = .ok (.getfield 9, 3) ∧ decode cJ0_indexOf_7cf53 27 = .ok (.iload_n 1, 1) ∧ decode cJ0_indexOf_7cf53 28 = .ok (.iload_n 2, 1) ∧ decode cJ0_indexOf_7cf53 29 = .ok (.aload_n 0, 1) := by decide +kernel
theorem dJ0_indexOf_7cf53_0 : decode cJ0_indexOf_7cf53 0 = .ok (.aload_n 0, 1) := dgJ0_indexOf_7cf53_0.1
theorem dJ0_indexOf_7cf53_1 : decode cJ0_indexOf_7cf53 1 = .ok (.invokevirtual 492, 3) := dgJ0_indexOf_7cf53_0.2.1
theorem dJ0_indexOf_7cf53_4 : decode cJ0_indexOf_7cf53 4 = .ok (.ifCond .eq 19, 3) := dgJ0_indexOf_7cf53_0.2.2.1
theorem dJ0_indexOf_7cf53_7 : decode cJ0_indexOf_7cf53 7 = .ok (.aload_n 0, 1) := dgJ0_indexOf_7cf53_0.2.2.2.1
theorem dJ0_indexOf_7cf53_8 : decode cJ0_indexOf_7cf53 8 = .ok (.getfield 9, 3) := dgJ0_indexOf_7cf53_0.2.2.2.2.1
theorem dJ0_indexOf_7cf53_11 : decode cJ0_indexOf_7cf53 11 = .ok (.iload_n 1, 1) := dgJ0_indexOf_7cf53_0.2.2.2.2.2.1
theorem dJ0_indexOf_7cf53_12 : decode cJ0_indexOf_7cf53 12 = .ok (.iload_n 2, 1) := dgJ0_indexOf_7cf53_0.2.2.2.2.2.2.1
theorem dJ0_indexOf_7cf53_13 : decode cJ0_indexOf_7cf53 13 = .ok (.aload_n 0, 1) := dgJ0_indexOf_7cf53_0.2.2.2.2.2.2.2.1
theorem dJ0_indexOf_7cf53_14 : decode cJ0_indexOf_7cf53 14 = .ok (.invokevirtual 505, 3) := dgJ0_indexOf_7cf53_0.2.2.2.2.2.2.2.2.1
theorem dJ0_indexOf_7cf53_17 : decode cJ0_indexOf_7cf53 17 = .ok (.invokestatic 637, 3) := dgJ0_indexOf_7cf53_0.2.2.2.2.2.2.2.2.2.1
theorem dJ0_indexOf_7cf53_20 : decode cJ0_indexOf_7cf53 20 = .ok (.goto 16, 3) := dgJ0_indexOf_7cf53_0.2.2.2.2.2.2.2.2.2.2.1
theorem dJ0_indexOf_7cf53_23 : decode cJ0_indexOf_7cf53 23 = .ok (.aload_n 0, 1) := dgJ0_indexOf_7cf53_0.2.2.2.2.2.2.2.2.2.2.2.1
theorem dJ0_indexOf_7cf53_24 : decode cJ0_indexOf_7cf53 24 = .ok (.getfield 9, 3) := dgJ0_indexOf_7cf53_0.2.2.2.2.2.2.2.2.2.2.2.2.1
theorem dJ0_indexOf_7cf53_27 : decode cJ0_indexOf_7cf53 27 = .ok (.iload_n 1, 1) := dgJ0_indexOf_7cf53_0.2.2.2.2.2.2.2.2.2.2.2.2.2.1
theorem dJ0_indexOf_7cf53_28 : decode cJ0_indexOf_7cf53 28 = .ok (.iload_n 2, 1) := dgJ0_indexOf_7cf53_0.2.2.2.2.2.2.2.2.2.2.2.2.2.2.1
theorem dJ0_indexOf_7cf53_29 : decode cJ0_indexOf_7cf53 29 = .ok (.aload_n 0, 1) := dgJ0_indexOf_7cf53_0.2.2.2.2.2.2.2.2.2.2.2.2.2.2.2
theorem dgJ0_indexOf_7cf53_1 : decode cJ0_indexOf_7cf53 30 = .ok (.invokevirtual 505, 3) ∧ decode cJ0_indexOf_7cf53 33 = .ok (.invokestatic 640, 3) ∧ decode cJ0_indexOf_7cf53 36 = .ok (.ireturn, 1) := by decide +kernel
theorem dJ0_indexOf_7cf53_30 : decode cJ0_indexOf_7cf53 30 = .ok (.invokevirtual 505, 3) := dgJ0_indexOf_7cf53_1.1
theorem dJ0_indexOf_7cf53_36 : decode cJ0_indexOf_7cf53 36 = .ok (.ireturn, 1) := dgJ0_indexOf_7cf53_1.2.2
abbrev pJ0_indexOf_7cf53 : List Nat := [0, 23, 36]
def bJ0_indexOf_7cf53_0 (cal : ab_F) : ab_K := o_aload 0 <| o_callX cal 234 0 <| o_if (fun x => decide (x = 0)) 1 <| o_aload 0 <| o_sval <| o_iload 1 <| o_iload 2 <| o_aload 0 <| o_callX cal 229 0 <| o_callS cal 239 4 <| o_goto 2
def bJ0_indexOf_7cf53_1 (cal : ab_F) : ab_K := o_aload 0 <| o_sval <| o_iload 1 <| o_iload 2 <| o_aload 0 <| o_callX cal 229 0 <| (fun _ _ _ => none)
def bJ0_indexOf_7cf53_2 (cal : ab_F) : ab_K := o_ret (some .int)
def bJ0_indexOf_7cf53 (cal : ab_F) : List ab_K := [bJ0_indexOf_7cf53_0 cal, bJ0_indexOf_7cf53_1 cal, bJ0_indexOf_7cf53_2 cal]
set_option maxRecDepth 100000 in
theorem sJ0_indexOf_7cf53_0 {G : ab_G} {xs : List Int32} {d : Nat} {cal : ab_F} (hcs : ab_CS G (ab_Z G xs) ab_Mf cal d) : ab_Sd G (ab_Z G xs) (d + 1) (ab_mY mJ0_indexOf_7cf53 pJ0_indexOf_7cf53) 0 (bJ0_indexOf_7cf53_0 cal) :=
  sn_aload_n dJ0_indexOf_7cf53_0 rfl <| sq_callX mt_234 hcs dJ0_indexOf_7cf53_1 (fun U h => h.2.2.2.2.2.2.1) w_708 w_709 w_710 w_69 w_711 hy_234 hm_234 <| sn_if_eq (tg := 23) dJ0_indexOf_7cf53_4 rfl rfl <| sn_aload_n dJ0_indexOf_7cf53_7 rfl <| sn_sval dJ0_indexOf_7cf53_8 w_1478 (fun U h => h.2.2.2.2.2.2.1) <| sn_iload_n dJ0_indexOf_7cf53_11 rfl <| sn_iload_n dJ0_indexOf_7cf53_12 rfl <| sn_aload_n dJ0_indexOf_7cf53_13 rfl <| sq_callX mt_229 hcs dJ0_indexOf_7cf53_14 (fun U h => h.2.2.2.2.2.2.1) w_787 w_695 w_696 w_69 w_697 hy_229 hm_229 <| sq_callS mt_239 hcs dJ0_indexOf_7cf53_17 w_788 w_789 w_70 w_790 hy_239 hm_239 <| sn_goto (tg := 36) dJ0_indexOf_7cf53_20 rfl rfl
set_option maxRecDepth 100000 in
theorem sJ0_indexOf_7cf53_1 {G : ab_G} {xs : List Int32} {d : Nat} {cal : ab_F} (hcs : ab_CS G (ab_Z G xs) ab_Mf cal d) : ab_Sd G (ab_Z G xs) (d + 1) (ab_mY mJ0_indexOf_7cf53 pJ0_indexOf_7cf53) 23 (bJ0_indexOf_7cf53_1 cal) :=
  sn_aload_n dJ0_indexOf_7cf53_23 rfl <| sn_sval dJ0_indexOf_7cf53_24 w_1478 (fun U h => h.2.2.2.2.2.2.1) <| sn_iload_n dJ0_indexOf_7cf53_27 rfl <| sn_iload_n dJ0_indexOf_7cf53_28 rfl <| sn_aload_n dJ0_indexOf_7cf53_29 rfl <| sq_callX mt_229 hcs dJ0_indexOf_7cf53_30 (fun U h => h.2.2.2.2.2.2.1) w_787 w_695 w_696 w_69 w_697 hy_229 hm_229 <| ab_Sd.fail
set_option maxRecDepth 100000 in
theorem sJ0_indexOf_7cf53_2 {G : ab_G} {xs : List Int32} {d : Nat} {cal : ab_F} (hcs : ab_CS G (ab_Z G xs) ab_Mf cal d) : ab_Sd G (ab_Z G xs) (d + 1) (ab_mY mJ0_indexOf_7cf53 pJ0_indexOf_7cf53) 36 (bJ0_indexOf_7cf53_2 cal) :=
  sn_ret dJ0_indexOf_7cf53_36 ab_ri_int
theorem sJ0_indexOf_7cf53 {G : ab_G} {xs : List Int32} {d : Nat} {cal : ab_F} (hcs : ab_CS G (ab_Z G xs) ab_Mf cal d) : ab_BS G (ab_Z G xs) (d + 1) (ab_mY mJ0_indexOf_7cf53 pJ0_indexOf_7cf53) pJ0_indexOf_7cf53 (bJ0_indexOf_7cf53 cal) := ⟨sJ0_indexOf_7cf53_0 hcs, sJ0_indexOf_7cf53_1 hcs, sJ0_indexOf_7cf53_2 hcs, trivial⟩
theorem dgJ0_coder_7d493_0 : decode cJ0_coder_7d493 0 = .ok (.getstatic 38, 3) ∧ decode cJ0_coder_7d493 3 = .ok (.ifCond .eq 10, 3) ∧ decode cJ0_coder_7d493 6 = .ok (.aload_n 0, 1) ∧ decode cJ0_coder_7d493 7 = .ok (.getfield 15, 3) ∧ decode cJ0_coder_7d493 10 = .ok (.goto 4, 3) ∧ decode cJ0_coder_7d493 13 = .ok (.iconst 1, 1) ∧ decode cJ0_coder_7d493 14 = .ok (.ireturn, 1) := by decide +kernel
theorem dJ0_coder_7d493_0 : decode cJ0_coder_7d493 0 = .ok (.getstatic 38, 3) := dgJ0_coder_7d493_0.1
theorem dJ0_coder_7d493_3 : decode cJ0_coder_7d493 3 = .ok (.ifCond .eq 10, 3) := dgJ0_coder_7d493_0.2.1
theorem dJ0_coder_7d493_6 : decode cJ0_coder_7d493 6 = .ok (.aload_n 0, 1) := dgJ0_coder_7d493_0.2.2.1
theorem dJ0_coder_7d493_7 : decode cJ0_coder_7d493 7 = .ok (.getfield 15, 3) := dgJ0_coder_7d493_0.2.2.2.1
theorem dJ0_coder_7d493_10 : decode cJ0_coder_7d493 10 = .ok (.goto 4, 3) := dgJ0_coder_7d493_0.2.2.2.2.1
theorem dJ0_coder_7d493_13 : decode cJ0_coder_7d493 13 = .ok (.iconst 1, 1) := dgJ0_coder_7d493_0.2.2.2.2.2.1
theorem dJ0_coder_7d493_14 : decode cJ0_coder_7d493 14 = .ok (.ireturn, 1) := dgJ0_coder_7d493_0.2.2.2.2.2.2
abbrev pJ0_coder_7d493 : List Nat := [0, 13, 14]
def bJ0_coder_7d493_0 (cal : ab_F) : ab_K := o_push (.int 1) <| o_if (fun x => decide (x = 0)) 1 <| o_aload 0 <| o_scod <| o_goto 2
def bJ0_coder_7d493_1 (cal : ab_F) : ab_K := o_push (.int 1) <| o_goto 2
def bJ0_coder_7d493_2 (cal : ab_F) : ab_K := o_ret (some .byte)
def bJ0_coder_7d493 (cal : ab_F) : List ab_K := [bJ0_coder_7d493_0 cal, bJ0_coder_7d493_1 cal, bJ0_coder_7d493_2 cal]
set_option maxRecDepth 100000 in
theorem sJ0_coder_7d493_0 {G : ab_G} {xs : List Int32} {d : Nat} {cal : ab_F} (hcs : ab_CS G (ab_Z G xs) ab_Mf cal d) : ab_Sd G (ab_Z G xs) (d + 1) (ab_mY mJ0_coder_7d493 pJ0_coder_7d493) 0 (bJ0_coder_7d493_0 cal) :=
  sn_getsI dJ0_coder_7d493_0 w_702 (fun U h => h.2.2.2.2.2.2.2.1) <| sn_if_eq (tg := 13) dJ0_coder_7d493_3 rfl rfl <| sn_aload_n dJ0_coder_7d493_6 rfl <| sn_scod dJ0_coder_7d493_7 w_1479 (fun U h => h.2.2.2.2.2.2.1) <| sn_goto (tg := 14) dJ0_coder_7d493_10 rfl rfl
set_option maxRecDepth 100000 in
theorem sJ0_coder_7d493_1 {G : ab_G} {xs : List Int32} {d : Nat} {cal : ab_F} (hcs : ab_CS G (ab_Z G xs) ab_Mf cal d) : ab_Sd G (ab_Z G xs) (d + 1) (ab_mY mJ0_coder_7d493 pJ0_coder_7d493) 13 (bJ0_coder_7d493_1 cal) :=
  sn_iconst dJ0_coder_7d493_13 rfl <| sn_next rfl
set_option maxRecDepth 100000 in
theorem sJ0_coder_7d493_2 {G : ab_G} {xs : List Int32} {d : Nat} {cal : ab_F} (hcs : ab_CS G (ab_Z G xs) ab_Mf cal d) : ab_Sd G (ab_Z G xs) (d + 1) (ab_mY mJ0_coder_7d493 pJ0_coder_7d493) 14 (bJ0_coder_7d493_2 cal) :=
  sn_ret dJ0_coder_7d493_14 ab_ri_byte
theorem sJ0_coder_7d493 {G : ab_G} {xs : List Int32} {d : Nat} {cal : ab_F} (hcs : ab_CS G (ab_Z G xs) ab_Mf cal d) : ab_BS G (ab_Z G xs) (d + 1) (ab_mY mJ0_coder_7d493 pJ0_coder_7d493) pJ0_coder_7d493 (bJ0_coder_7d493 cal) := ⟨sJ0_coder_7d493_0 hcs, sJ0_coder_7d493_1 hcs, sJ0_coder_7d493_2 hcs, trivial⟩
theorem dgJ0_isLatin1_aae02_0 : decode cJ0_isLatin1_aae02 0 = .ok (.getstatic 38, 3) ∧ decode cJ0_isLatin1_aae02 3 = .ok (.ifCond .eq 14, 3) ∧ decode cJ0_isLatin1_aae02 6 = .ok (.aload_n 0, 1) ∧ decode cJ0_isLatin1_aae02 7 = .ok (.getfield 15, 3) ∧ decode cJ0_isLatin1_aae02 10 = .ok (.ifCond .ne 7, 3) ∧ decode cJ0_isLatin1_aae02 13 = .ok (.iconst 1, 1) ∧ decode cJ0_isLatin1_aae02 14 = .ok (.goto 4, 3) ∧ decode cJ0_isLatin1_aae02 17 = .ok (.iconst 0, 1) ∧ decode cJ0_isLatin1_aae02 18 = .ok (.ireturn, 1) := by decide +kernel
theorem dJ0_isLatin1_aae02_0 : decode cJ0_isLatin1_aae02 0 = .ok (.getstatic 38, 3) := dgJ0_isLatin1_aae02_0.1
theorem dJ0_isLatin1_aae02_3 : decode cJ0_isLatin1_aae02 3 = .ok (.ifCond .eq 14, 3) := dgJ0_isLatin1_aae02_0.2.1
theorem dJ0_isLatin1_aae02_6 : decode cJ0_isLatin1_aae02 6 = .ok (.aload_n 0, 1) := dgJ0_isLatin1_aae02_0.2.2.1
theorem dJ0_isLatin1_aae02_7 : decode cJ0_isLatin1_aae02 7 = .ok (.getfield 15, 3) := dgJ0_isLatin1_aae02_0.2.2.2.1
theorem dJ0_isLatin1_aae02_10 : decode cJ0_isLatin1_aae02 10 = .ok (.ifCond .ne 7, 3) := dgJ0_isLatin1_aae02_0.2.2.2.2.1
theorem dJ0_isLatin1_aae02_13 : decode cJ0_isLatin1_aae02 13 = .ok (.iconst 1, 1) := dgJ0_isLatin1_aae02_0.2.2.2.2.2.1
theorem dJ0_isLatin1_aae02_14 : decode cJ0_isLatin1_aae02 14 = .ok (.goto 4, 3) := dgJ0_isLatin1_aae02_0.2.2.2.2.2.2.1
theorem dJ0_isLatin1_aae02_17 : decode cJ0_isLatin1_aae02 17 = .ok (.iconst 0, 1) := dgJ0_isLatin1_aae02_0.2.2.2.2.2.2.2.1
theorem dJ0_isLatin1_aae02_18 : decode cJ0_isLatin1_aae02 18 = .ok (.ireturn, 1) := dgJ0_isLatin1_aae02_0.2.2.2.2.2.2.2.2
abbrev pJ0_isLatin1_aae02 : List Nat := [0, 17, 18]
def bJ0_isLatin1_aae02_0 (cal : ab_F) : ab_K := o_push (.int 1) <| o_if (fun x => decide (x = 0)) 1 <| o_aload 0 <| o_scod <| o_if (fun x => decide (¬ x = 0)) 1 <| o_push (.int 1) <| o_goto 2
def bJ0_isLatin1_aae02_1 (cal : ab_F) : ab_K := o_push (.int 0) <| o_goto 2
def bJ0_isLatin1_aae02_2 (cal : ab_F) : ab_K := o_ret (some .boolean)
def bJ0_isLatin1_aae02 (cal : ab_F) : List ab_K := [bJ0_isLatin1_aae02_0 cal, bJ0_isLatin1_aae02_1 cal, bJ0_isLatin1_aae02_2 cal]
set_option maxRecDepth 100000 in
theorem sJ0_isLatin1_aae02_0 {G : ab_G} {xs : List Int32} {d : Nat} {cal : ab_F} (hcs : ab_CS G (ab_Z G xs) ab_Mf cal d) : ab_Sd G (ab_Z G xs) (d + 1) (ab_mY mJ0_isLatin1_aae02 pJ0_isLatin1_aae02) 0 (bJ0_isLatin1_aae02_0 cal) :=
  sn_getsI dJ0_isLatin1_aae02_0 w_702 (fun U h => h.2.2.2.2.2.2.2.1) <| sn_if_eq (tg := 17) dJ0_isLatin1_aae02_3 rfl rfl <| sn_aload_n dJ0_isLatin1_aae02_6 rfl <| sn_scod dJ0_isLatin1_aae02_7 w_1479 (fun U h => h.2.2.2.2.2.2.1) <| sn_if_ne (tg := 17) dJ0_isLatin1_aae02_10 rfl rfl <| sn_iconst dJ0_isLatin1_aae02_13 rfl <| sn_goto (tg := 18) dJ0_isLatin1_aae02_14 rfl rfl
set_option maxRecDepth 100000 in
theorem sJ0_isLatin1_aae02_1 {G : ab_G} {xs : List Int32} {d : Nat} {cal : ab_F} (hcs : ab_CS G (ab_Z G xs) ab_Mf cal d) : ab_Sd G (ab_Z G xs) (d + 1) (ab_mY mJ0_isLatin1_aae02 pJ0_isLatin1_aae02) 17 (bJ0_isLatin1_aae02_1 cal) :=
  sn_iconst dJ0_isLatin1_aae02_17 rfl <| sn_next rfl
set_option maxRecDepth 100000 in
theorem sJ0_isLatin1_aae02_2 {G : ab_G} {xs : List Int32} {d : Nat} {cal : ab_F} (hcs : ab_CS G (ab_Z G xs) ab_Mf cal d) : ab_Sd G (ab_Z G xs) (d + 1) (ab_mY mJ0_isLatin1_aae02 pJ0_isLatin1_aae02) 18 (bJ0_isLatin1_aae02_2 cal) :=
  sn_ret dJ0_isLatin1_aae02_18 ab_ri_bool
theorem sJ0_isLatin1_aae02 {G : ab_G} {xs : List Int32} {d : Nat} {cal : ab_F} (hcs : ab_CS G (ab_Z G xs) ab_Mf cal d) : ab_BS G (ab_Z G xs) (d + 1) (ab_mY mJ0_isLatin1_aae02 pJ0_isLatin1_aae02) pJ0_isLatin1_aae02 (bJ0_isLatin1_aae02 cal) := ⟨sJ0_isLatin1_aae02_0 hcs, sJ0_isLatin1_aae02_1 hcs, sJ0_isLatin1_aae02_2 hcs, trivial⟩
theorem dgJ0_checkIndex_df160_0 : decode cJ0_checkIndex_df160 0 = .ok (.iload_n 0, 1) ∧ decode cJ0_checkIndex_df160 1 = .ok (.iload_n 1, 1) ∧ decode cJ0_checkIndex_df160 2 = .ok (.getstatic 1053, 3) ∧ decode cJ0_checkIndex_df160 5 = .ok (.invokestatic 1059, 3) ∧ decode cJ0_checkIndex_df160 8 = .ok (.pop, 1) ∧ decode cJ0_checkIndex_df160 9 = .ok (.return_, 1) := by decide +kernel
theorem dJ0_checkIndex_df160_0 : decode cJ0_checkIndex_df160 0 = .ok (.iload_n 0, 1) := dgJ0_checkIndex_df160_0.1
theorem dJ0_checkIndex_df160_1 : decode cJ0_checkIndex_df160 1 = .ok (.iload_n 1, 1) := dgJ0_checkIndex_df160_0.2.1
theorem dJ0_checkIndex_df160_2 : decode cJ0_checkIndex_df160 2 = .ok (.getstatic 1053, 3) := dgJ0_checkIndex_df160_0.2.2.1
theorem dJ0_checkIndex_df160_5 : decode cJ0_checkIndex_df160 5 = .ok (.invokestatic 1059, 3) := dgJ0_checkIndex_df160_0.2.2.2.1
theorem dJ0_checkIndex_df160_8 : decode cJ0_checkIndex_df160 8 = .ok (.pop, 1) := dgJ0_checkIndex_df160_0.2.2.2.2.1
theorem dJ0_checkIndex_df160_9 : decode cJ0_checkIndex_df160 9 = .ok (.return_, 1) := dgJ0_checkIndex_df160_0.2.2.2.2.2
abbrev pJ0_checkIndex_df160 : List Nat := [0]
def bJ0_checkIndex_df160_0 (cal : ab_F) : ab_K := o_iload 0 <| o_iload 1 <| o_getq <| o_callS cal 252 3 <| o_pop <| o_ret none
def bJ0_checkIndex_df160 (cal : ab_F) : List ab_K := [bJ0_checkIndex_df160_0 cal]
set_option maxRecDepth 100000 in
theorem sJ0_checkIndex_df160_0 {G : ab_G} {xs : List Int32} {d : Nat} {cal : ab_F} (hcs : ab_CS G (ab_Z G xs) ab_Mf cal d) : ab_Sd G (ab_Z G xs) (d + 1) (ab_mY mJ0_checkIndex_df160 pJ0_checkIndex_df160) 0 (bJ0_checkIndex_df160_0 cal) :=
  sn_iload_n dJ0_checkIndex_df160_0 rfl <| sn_iload_n dJ0_checkIndex_df160_1 rfl <| sn_getq dJ0_checkIndex_df160_2 w_718 (fun U h => h.2.2.2.2.2.2.2.2.1) <| sq_callS mt_252 hcs dJ0_checkIndex_df160_5 w_720 w_721 w_71 w_722 hy_252 hm_252 <| sn_pop dJ0_checkIndex_df160_8 <| sn_ret dJ0_checkIndex_df160_9 ab_ri_void
theorem sJ0_checkIndex_df160 {G : ab_G} {xs : List Int32} {d : Nat} {cal : ab_F} (hcs : ab_CS G (ab_Z G xs) ab_Mf cal d) : ab_BS G (ab_Z G xs) (d + 1) (ab_mY mJ0_checkIndex_df160 pJ0_checkIndex_df160) pJ0_checkIndex_df160 (bJ0_checkIndex_df160 cal) := ⟨sJ0_checkIndex_df160_0 hcs, trivial⟩
theorem dgJ0_checkBoundsBeginEnd_23922_0 : decode cJ0_checkBoundsBeginEnd_23922 0 = .ok (.iload_n 0, 1) ∧ decode cJ0_checkBoundsBeginEnd_23922 1 = .ok (.iload_n 1, 1) ∧ decode cJ0_checkBoundsBeginEnd_23922 2 = .ok (.iload_n 2, 1) ∧ decode cJ0_checkBoundsBeginEnd_23922 3 = .ok (.getstatic 1053, 3) ∧ decode cJ0_checkBoundsBeginEnd_23922 6 = .ok (.invokestatic 1062, 3) ∧ decode cJ0_checkBoundsBeginEnd_23922 9 = .ok (.pop, 1) ∧ decode cJ0_checkBoundsBeginEnd_23922 10 = .ok (.return_, 1) := by decide +kernel
theorem dJ0_checkBoundsBeginEnd_23922_0 : decode cJ0_checkBoundsBeginEnd_23922 0 = .ok (.iload_n 0, 1) := dgJ0_checkBoundsBeginEnd_23922_0.1
theorem dJ0_checkBoundsBeginEnd_23922_1 : decode cJ0_checkBoundsBeginEnd_23922 1 = .ok (.iload_n 1, 1) := dgJ0_checkBoundsBeginEnd_23922_0.2.1
theorem dJ0_checkBoundsBeginEnd_23922_2 : decode cJ0_checkBoundsBeginEnd_23922 2 = .ok (.iload_n 2, 1) := dgJ0_checkBoundsBeginEnd_23922_0.2.2.1
theorem dJ0_checkBoundsBeginEnd_23922_3 : decode cJ0_checkBoundsBeginEnd_23922 3 = .ok (.getstatic 1053, 3) := dgJ0_checkBoundsBeginEnd_23922_0.2.2.2.1
theorem dJ0_checkBoundsBeginEnd_23922_6 : decode cJ0_checkBoundsBeginEnd_23922 6 = .ok (.invokestatic 1062, 3) := dgJ0_checkBoundsBeginEnd_23922_0.2.2.2.2.1
theorem dJ0_checkBoundsBeginEnd_23922_9 : decode cJ0_checkBoundsBeginEnd_23922 9 = .ok (.pop, 1) := dgJ0_checkBoundsBeginEnd_23922_0.2.2.2.2.2.1
theorem dJ0_checkBoundsBeginEnd_23922_10 : decode cJ0_checkBoundsBeginEnd_23922 10 = .ok (.return_, 1) := dgJ0_checkBoundsBeginEnd_23922_0.2.2.2.2.2.2
abbrev pJ0_checkBoundsBeginEnd_23922 : List Nat := [0]
def bJ0_checkBoundsBeginEnd_23922_0 (cal : ab_F) : ab_K := o_iload 0 <| o_iload 1 <| o_iload 2 <| o_getq <| o_callS cal 253 4 <| o_pop <| o_ret none
def bJ0_checkBoundsBeginEnd_23922 (cal : ab_F) : List ab_K := [bJ0_checkBoundsBeginEnd_23922_0 cal]
set_option maxRecDepth 100000 in
theorem sJ0_checkBoundsBeginEnd_23922_0 {G : ab_G} {xs : List Int32} {d : Nat} {cal : ab_F} (hcs : ab_CS G (ab_Z G xs) ab_Mf cal d) : ab_Sd G (ab_Z G xs) (d + 1) (ab_mY mJ0_checkBoundsBeginEnd_23922 pJ0_checkBoundsBeginEnd_23922) 0 (bJ0_checkBoundsBeginEnd_23922_0 cal) :=
  sn_iload_n dJ0_checkBoundsBeginEnd_23922_0 rfl <| sn_iload_n dJ0_checkBoundsBeginEnd_23922_1 rfl <| sn_iload_n dJ0_checkBoundsBeginEnd_23922_2 rfl <| sn_getq dJ0_checkBoundsBeginEnd_23922_3 w_718 (fun U h => h.2.2.2.2.2.2.2.2.1) <| sq_callS mt_253 hcs dJ0_checkBoundsBeginEnd_23922_6 w_814 w_815 w_71 w_816 hy_253 hm_253 <| sn_pop dJ0_checkBoundsBeginEnd_23922_9 <| sn_ret dJ0_checkBoundsBeginEnd_23922_10 ab_ri_void
theorem sJ0_checkBoundsBeginEnd_23922 {G : ab_G} {xs : List Int32} {d : Nat} {cal : ab_F} (hcs : ab_CS G (ab_Z G xs) ab_Mf cal d) : ab_BS G (ab_Z G xs) (d + 1) (ab_mY mJ0_checkBoundsBeginEnd_23922 pJ0_checkBoundsBeginEnd_23922) pJ0_checkBoundsBeginEnd_23922 (bJ0_checkBoundsBeginEnd_23922 cal) := ⟨sJ0_checkBoundsBeginEnd_23922_0 hcs, trivial⟩
theorem dgJ1_charAt_3b067_0 : decode cJ1_charAt_3b067 0 = .ok (.iload_n 1, 1) ∧ decode cJ1_charAt_3b067 1 = .ok (.aload_n 0, 1) ∧ decode cJ1_charAt_3b067 2 = .ok (.arraylength, 1) ∧ decode cJ1_charAt_3b067 3 = .ok (.invokestatic 9, 3) ∧ decode cJ1_charAt_3b067 6 = .ok (.aload_n 0, 1) ∧ decode cJ1_charAt_3b067 7 = .ok (.iload_n 1, 1) ∧ decode cJ1_charAt_3b067 8 = .ok (.baload, 1) ∧ decode cJ1_charAt_3b067 9 = .ok (.sipush 255, 3) ∧ decode cJ1_charAt_3b067 12 = .ok (.iand, 1) ∧ decode cJ1_charAt_3b067 13 = .ok (.i2c, 1) ∧ decode cJ1_charAt_3b067 14 = .ok (.ireturn, 1) := by decide +kernel
theorem dJ1_charAt_3b067_0 : decode cJ1_charAt_3b067 0 = .ok (.iload_n 1, 1) := dgJ1_charAt_3b067_0.1
theorem dJ1_charAt_3b067_1 : decode cJ1_charAt_3b067 1 = .ok (.aload_n 0, 1) := dgJ1_charAt_3b067_0.2.1
theorem dJ1_charAt_3b067_2 : decode cJ1_charAt_3b067 2 = .ok (.arraylength, 1) := dgJ1_charAt_3b067_0.2.2.1
theorem dJ1_charAt_3b067_3 : decode cJ1_charAt_3b067 3 = .ok (.invokestatic 9, 3) := dgJ1_charAt_3b067_0.2.2.2.1
theorem dJ1_charAt_3b067_6 : decode cJ1_charAt_3b067 6 = .ok (.aload_n 0, 1) := dgJ1_charAt_3b067_0.2.2.2.2.1
theorem dJ1_charAt_3b067_7 : decode cJ1_charAt_3b067 7 = .ok (.iload_n 1, 1) := dgJ1_charAt_3b067_0.2.2.2.2.2.1
theorem dJ1_charAt_3b067_8 : decode cJ1_charAt_3b067 8 = .ok (.baload, 1) := dgJ1_charAt_3b067_0.2.2.2.2.2.2.1
theorem dJ1_charAt_3b067_9 : decode cJ1_charAt_3b067 9 = .ok (.sipush 255, 3) := dgJ1_charAt_3b067_0.2.2.2.2.2.2.2.1
theorem dJ1_charAt_3b067_12 : decode cJ1_charAt_3b067 12 = .ok (.iand, 1) := dgJ1_charAt_3b067_0.2.2.2.2.2.2.2.2.1
theorem dJ1_charAt_3b067_13 : decode cJ1_charAt_3b067 13 = .ok (.i2c, 1) := dgJ1_charAt_3b067_0.2.2.2.2.2.2.2.2.2.1
theorem dJ1_charAt_3b067_14 : decode cJ1_charAt_3b067 14 = .ok (.ireturn, 1) := dgJ1_charAt_3b067_0.2.2.2.2.2.2.2.2.2.2
abbrev pJ1_charAt_3b067 : List Nat := [0]
def bJ1_charAt_3b067_0 (cal : ab_F) : ab_K := o_iload 1 <| o_aload 0 <| o_sblen <| o_callS cal 235 2 <| o_aload 0 <| o_iload 1 <| o_sbal <| o_push (.int 255) <| o_bin (fun x y => x &&& y) <| o_un (fun x => (x.toUInt32 % 65536).toInt32) <| o_ret (some .char)
def bJ1_charAt_3b067 (cal : ab_F) : List ab_K := [bJ1_charAt_3b067_0 cal]
set_option maxRecDepth 100000 in
theorem sJ1_charAt_3b067_0 {G : ab_G} {xs : List Int32} {d : Nat} {cal : ab_F} (hcs : ab_CS G (ab_Z G xs) ab_Mf cal d) : ab_Sd G (ab_Z G xs) (d + 1) (ab_mY mJ1_charAt_3b067 pJ1_charAt_3b067) 0 (bJ1_charAt_3b067_0 cal) :=
  sn_iload_n dJ1_charAt_3b067_0 rfl <| sn_aload_n dJ1_charAt_3b067_1 rfl <| sn_sblen dJ1_charAt_3b067_2 (fun U h => h.2.2.2.2.2.2.1) <| sq_callS mt_235 hcs dJ1_charAt_3b067_3 w_715 w_716 w_69 w_717 hy_235 hm_235 <| sn_aload_n dJ1_charAt_3b067_6 rfl <| sn_iload_n dJ1_charAt_3b067_7 rfl <| sn_sbal dJ1_charAt_3b067_8 (fun U h => h.2.2.2.2.2.2.1) <| sn_sipush dJ1_charAt_3b067_9 rfl <| sn_iand dJ1_charAt_3b067_12 <| sn_i2c dJ1_charAt_3b067_13 <| sn_ret dJ1_charAt_3b067_14 ab_ri_char
theorem sJ1_charAt_3b067 {G : ab_G} {xs : List Int32} {d : Nat} {cal : ab_F} (hcs : ab_CS G (ab_Z G xs) ab_Mf cal d) : ab_BS G (ab_Z G xs) (d + 1) (ab_mY mJ1_charAt_3b067 pJ1_charAt_3b067) pJ1_charAt_3b067 (bJ1_charAt_3b067 cal) := ⟨sJ1_charAt_3b067_0 hcs, trivial⟩
theorem dgJ1_canEncode_9a6ad_0 : decode cJ1_canEncode_9a6ad 0 = .ok (.iload_n 0, 1) ∧ decode cJ1_canEncode_9a6ad 1 = .ok (.ifCond .lt 14, 3) ∧ decode cJ1_canEncode_9a6ad 4 = .ok (.iload_n 0, 1) ∧ decode cJ1_canEncode_9a6ad 5 = .ok (.sipush 255, 3) ∧ decode cJ1_canEncode_9a6ad 8 = .ok (.if_icmp .gt 7, 3) ∧ decode cJ1_canEncode_9a6ad 11 = .ok (.iconst 1, 1) ∧ decode cJ1_canEncode_9a6ad 12 = .ok (.goto 4, 3) ∧ decode cJ1_canEncode_9a6ad 15 = .ok (.iconst 0, 1) ∧ decode cJ1_canEncode_9a6ad 16 = .ok (.ireturn, 1) := by decide +kernel
theorem dJ1_canEncode_9a6ad_0 : decode cJ1_canEncode_9a6ad 0 = .ok (.iload_n 0, 1) := dgJ1_canEncode_9a6ad_0.1
theorem dJ1_canEncode_9a6ad_1 : decode cJ1_canEncode_9a6ad 1 = .ok (.ifCond .lt 14, 3) := dgJ1_canEncode_9a6ad_0.2.1
theorem dJ1_canEncode_9a6ad_4 : decode cJ1_canEncode_9a6ad 4 = .ok (.iload_n 0, 1) := dgJ1_canEncode_9a6ad_0.2.2.1
theorem dJ1_canEncode_9a6ad_5 : decode cJ1_canEncode_9a6ad 5 = .ok (.sipush 255, 3) := dgJ1_canEncode_9a6ad_0.2.2.2.1
theorem dJ1_canEncode_9a6ad_8 : decode cJ1_canEncode_9a6ad 8 = .ok (.if_icmp .gt 7, 3) := dgJ1_canEncode_9a6ad_0.2.2.2.2.1
theorem dJ1_canEncode_9a6ad_11 : decode cJ1_canEncode_9a6ad 11 = .ok (.iconst 1, 1) := dgJ1_canEncode_9a6ad_0.2.2.2.2.2.1
theorem dJ1_canEncode_9a6ad_12 : decode cJ1_canEncode_9a6ad 12 = .ok (.goto 4, 3) := dgJ1_canEncode_9a6ad_0.2.2.2.2.2.2.1
theorem dJ1_canEncode_9a6ad_15 : decode cJ1_canEncode_9a6ad 15 = .ok (.iconst 0, 1) := dgJ1_canEncode_9a6ad_0.2.2.2.2.2.2.2.1
theorem dJ1_canEncode_9a6ad_16 : decode cJ1_canEncode_9a6ad 16 = .ok (.ireturn, 1) := dgJ1_canEncode_9a6ad_0.2.2.2.2.2.2.2.2
abbrev pJ1_canEncode_9a6ad : List Nat := [0, 15, 16]
def bJ1_canEncode_9a6ad_0 (cal : ab_F) : ab_K := o_iload 0 <| o_if (fun x => decide (x < 0)) 1 <| o_iload 0 <| o_push (.int 255) <| o_cmp (fun x y => decide (y < x)) 1 <| o_push (.int 1) <| o_goto 2
def bJ1_canEncode_9a6ad_1 (cal : ab_F) : ab_K := o_push (.int 0) <| o_goto 2
def bJ1_canEncode_9a6ad_2 (cal : ab_F) : ab_K := o_ret (some .boolean)
def bJ1_canEncode_9a6ad (cal : ab_F) : List ab_K := [bJ1_canEncode_9a6ad_0 cal, bJ1_canEncode_9a6ad_1 cal, bJ1_canEncode_9a6ad_2 cal]
set_option maxRecDepth 100000 in
theorem sJ1_canEncode_9a6ad_0 {G : ab_G} {xs : List Int32} {d : Nat} {cal : ab_F} (hcs : ab_CS G (ab_Z G xs) ab_Mf cal d) : ab_Sd G (ab_Z G xs) (d + 1) (ab_mY mJ1_canEncode_9a6ad pJ1_canEncode_9a6ad) 0 (bJ1_canEncode_9a6ad_0 cal) :=
  sn_iload_n dJ1_canEncode_9a6ad_0 rfl <| sn_if_lt (tg := 15) dJ1_canEncode_9a6ad_1 rfl rfl <| sn_iload_n dJ1_canEncode_9a6ad_4 rfl <| sn_sipush dJ1_canEncode_9a6ad_5 rfl <| sn_cmp_gt (tg := 15) dJ1_canEncode_9a6ad_8 rfl rfl <| sn_iconst dJ1_canEncode_9a6ad_11 rfl <| sn_goto (tg := 16) dJ1_canEncode_9a6ad_12 rfl rfl
set_option maxRecDepth 100000 in
theorem sJ1_canEncode_9a6ad_1 {G : ab_G} {xs : List Int32} {d : Nat} {cal : ab_F} (hcs : ab_CS G (ab_Z G xs) ab_Mf cal d) : ab_Sd G (ab_Z G xs) (d + 1) (ab_mY mJ1_canEncode_9a6ad pJ1_canEncode_9a6ad) 15 (bJ1_canEncode_9a6ad_1 cal) :=
  sn_iconst dJ1_canEncode_9a6ad_15 rfl <| sn_next rfl
set_option maxRecDepth 100000 in
theorem sJ1_canEncode_9a6ad_2 {G : ab_G} {xs : List Int32} {d : Nat} {cal : ab_F} (hcs : ab_CS G (ab_Z G xs) ab_Mf cal d) : ab_Sd G (ab_Z G xs) (d + 1) (ab_mY mJ1_canEncode_9a6ad pJ1_canEncode_9a6ad) 16 (bJ1_canEncode_9a6ad_2 cal) :=
  sn_ret dJ1_canEncode_9a6ad_16 ab_ri_bool
theorem sJ1_canEncode_9a6ad {G : ab_G} {xs : List Int32} {d : Nat} {cal : ab_F} (hcs : ab_CS G (ab_Z G xs) ab_Mf cal d) : ab_BS G (ab_Z G xs) (d + 1) (ab_mY mJ1_canEncode_9a6ad pJ1_canEncode_9a6ad) pJ1_canEncode_9a6ad (bJ1_canEncode_9a6ad cal) := ⟨sJ1_canEncode_9a6ad_0 hcs, sJ1_canEncode_9a6ad_1 hcs, sJ1_canEncode_9a6ad_2 hcs, trivial⟩
theorem dgJ1_indexOf_4cfef_0 : decode cJ1_indexOf_4cfef 0 = .ok (.iload_n 1, 1) ∧ decode cJ1_indexOf_4cfef 1 = .ok (.invokestatic 88, 3) ∧ decode cJ1_indexOf_4cfef 4 = .ok (.ifCond .ne 5, 3) ∧ decode cJ1_indexOf_4cfef 7 = .ok (.iconst (-1), 1) ∧ decode cJ1_indexOf_4cfef 8 = .ok (.ireturn, 1) ∧ decode cJ1_indexOf_4cfef 9 = .ok (.iload_n 2, 1) ∧ decode cJ1_indexOf_4cfef 10 = .ok (.iconst 0, 1) ∧ decode cJ1_indexOf_4cfef 11 = .ok (.invokestatic 92, 3) ∧ decode cJ1_indexOf_4cfef 14 = .ok (.istore_n 2, 1) ∧ decode cJ1_indexOf_4cfef 15 = .ok (.iload_n 3, 1) ∧ decode cJ1_indexOf_4cfef 16 = .ok (.aload_n 0, 1) ∧ decode cJ1_indexOf_4cfef 17 = .ok (.arraylength, 1) ∧ decode cJ1_indexOf_4cfef 18 = .ok (.invokestatic 38, 3) ∧ decode cJ1_indexOf_4cfef 21 = .ok (.istore_n 3, 1) ∧ decode cJ1_indexOf_4cfef 22 = .ok (.iload_n 2, 1) ∧ decode cJ1_indexOf_4cfef 23 = .ok (.iload_n 3, 1) := by decide +kernel
theorem dJ1_indexOf_4cfef_0 : decode cJ1_indexOf_4cfef 0 = .ok (.iload_n 1, 1) := dgJ1_indexOf_4cfef_0.1
theorem dJ1_indexOf_4cfef_1 : decode cJ1_indexOf_4cfef 1 = .ok (.invokestatic 88, 3) := dgJ1_indexOf_4cfef_0.2.1
theorem dJ1_indexOf_4cfef_4 : decode cJ1_indexOf_4cfef 4 = .ok (.ifCond .ne 5, 3) := dgJ1_indexOf_4cfef_0.2.2.1
theorem dJ1_indexOf_4cfef_7 : decode cJ1_indexOf_4cfef 7 = .ok (.iconst (-1), 1) := dgJ1_indexOf_4cfef_0.2.2.2.1
theorem dJ1_indexOf_4cfef_8 : decode cJ1_indexOf_4cfef 8 = .ok (.ireturn, 1) := dgJ1_indexOf_4cfef_0.2.2.2.2.1
theorem dJ1_indexOf_4cfef_9 : decode cJ1_indexOf_4cfef 9 = .ok (.iload_n 2, 1) := dgJ1_indexOf_4cfef_0.2.2.2.2.2.1
theorem dJ1_indexOf_4cfef_10 : decode cJ1_indexOf_4cfef 10 = .ok (.iconst 0, 1) := dgJ1_indexOf_4cfef_0.2.2.2.2.2.2.1
theorem dJ1_indexOf_4cfef_11 : decode cJ1_indexOf_4cfef 11 = .ok (.invokestatic 92, 3) := dgJ1_indexOf_4cfef_0.2.2.2.2.2.2.2.1
theorem dJ1_indexOf_4cfef_14 : decode cJ1_indexOf_4cfef 14 = .ok (.istore_n 2, 1) := dgJ1_indexOf_4cfef_0.2.2.2.2.2.2.2.2.1
theorem dJ1_indexOf_4cfef_15 : decode cJ1_indexOf_4cfef 15 = .ok (.iload_n 3, 1) := dgJ1_indexOf_4cfef_0.2.2.2.2.2.2.2.2.2.1
theorem dJ1_indexOf_4cfef_16 : decode cJ1_indexOf_4cfef 16 = .ok (.aload_n 0, 1) := dgJ1_indexOf_4cfef_0.2.2.2.2.2.2.2.2.2.2.1
theorem dJ1_indexOf_4cfef_17 : decode cJ1_indexOf_4cfef 17 = .ok (.arraylength, 1) := dgJ1_indexOf_4cfef_0.2.2.2.2.2.2.2.2.2.2.2.1
theorem dJ1_indexOf_4cfef_18 : decode cJ1_indexOf_4cfef 18 = .ok (.invokestatic 38, 3) := dgJ1_indexOf_4cfef_0.2.2.2.2.2.2.2.2.2.2.2.2.1
theorem dJ1_indexOf_4cfef_21 : decode cJ1_indexOf_4cfef 21 = .ok (.istore_n 3, 1) := dgJ1_indexOf_4cfef_0.2.2.2.2.2.2.2.2.2.2.2.2.2.1
theorem dJ1_indexOf_4cfef_22 : decode cJ1_indexOf_4cfef 22 = .ok (.iload_n 2, 1) := dgJ1_indexOf_4cfef_0.2.2.2.2.2.2.2.2.2.2.2.2.2.2.1
theorem dJ1_indexOf_4cfef_23 : decode cJ1_indexOf_4cfef 23 = .ok (.iload_n 3, 1) := dgJ1_indexOf_4cfef_0.2.2.2.2.2.2.2.2.2.2.2.2.2.2.2
theorem dgJ1_indexOf_4cfef_1 : decode cJ1_indexOf_4cfef 24 = .ok (.if_icmp .lt 5, 3) ∧ decode cJ1_indexOf_4cfef 27 = .ok (.iconst (-1), 1) ∧ decode cJ1_indexOf_4cfef 28 = .ok (.ireturn, 1) ∧ decode cJ1_indexOf_4cfef 29 = .ok (.aload_n 0, 1) ∧ decode cJ1_indexOf_4cfef 30 = .ok (.iload_n 1, 1) ∧ decode cJ1_indexOf_4cfef 31 = .ok (.iload_n 2, 1) ∧ decode cJ1_indexOf_4cfef 32 = .ok (.iload_n 3, 1) ∧ decode cJ1_indexOf_4cfef 33 = .ok (.invokestatic 95, 3) ∧ decode cJ1_indexOf_4cfef 36 = .ok (.ireturn, 1) := by decide +kernel
theorem dJ1_indexOf_4cfef_24 : decode cJ1_indexOf_4cfef 24 = .ok (.if_icmp .lt 5, 3) := dgJ1_indexOf_4cfef_1.1
theorem dJ1_indexOf_4cfef_27 : decode cJ1_indexOf_4cfef 27 = .ok (.iconst (-1), 1) := dgJ1_indexOf_4cfef_1.2.1
theorem dJ1_indexOf_4cfef_28 : decode cJ1_indexOf_4cfef 28 = .ok (.ireturn, 1) := dgJ1_indexOf_4cfef_1.2.2.1
theorem dJ1_indexOf_4cfef_29 : decode cJ1_indexOf_4cfef 29 = .ok (.aload_n 0, 1) := dgJ1_indexOf_4cfef_1.2.2.2.1
theorem dJ1_indexOf_4cfef_30 : decode cJ1_indexOf_4cfef 30 = .ok (.iload_n 1, 1) := dgJ1_indexOf_4cfef_1.2.2.2.2.1
theorem dJ1_indexOf_4cfef_31 : decode cJ1_indexOf_4cfef 31 = .ok (.iload_n 2, 1) := dgJ1_indexOf_4cfef_1.2.2.2.2.2.1
theorem dJ1_indexOf_4cfef_32 : decode cJ1_indexOf_4cfef 32 = .ok (.iload_n 3, 1) := dgJ1_indexOf_4cfef_1.2.2.2.2.2.2.1
theorem dJ1_indexOf_4cfef_33 : decode cJ1_indexOf_4cfef 33 = .ok (.invokestatic 95, 3) := dgJ1_indexOf_4cfef_1.2.2.2.2.2.2.2.1
theorem dJ1_indexOf_4cfef_36 : decode cJ1_indexOf_4cfef 36 = .ok (.ireturn, 1) := dgJ1_indexOf_4cfef_1.2.2.2.2.2.2.2.2
abbrev pJ1_indexOf_4cfef : List Nat := [0, 9, 29]
def bJ1_indexOf_4cfef_0 (cal : ab_F) : ab_K := o_iload 1 <| o_callS cal 238 1 <| o_if (fun x => decide (¬ x = 0)) 1 <| o_push (.int (-1)) <| o_ret (some .int)
def bJ1_indexOf_4cfef_1 (cal : ab_F) : ab_K := o_iload 2 <| o_push (.int 0) <| o_m2 (fun x y => if x < y then y else x) <| o_istore 2 <| o_iload 3 <| o_aload 0 <| o_sblen <| o_m2 (fun x y => if y < x then y else x) <| o_istore 3 <| o_iload 2 <| o_iload 3 <| o_cmp (fun x y => decide (x < y)) 2 <| o_push (.int (-1)) <| o_ret (some .int)
def bJ1_indexOf_4cfef_2 (cal : ab_F) : ab_K := o_aload 0 <| o_iload 1 <| o_iload 2 <| o_iload 3 <| o_callS cal 240 4 <| o_ret (some .int)
def bJ1_indexOf_4cfef (cal : ab_F) : List ab_K := [bJ1_indexOf_4cfef_0 cal, bJ1_indexOf_4cfef_1 cal, bJ1_indexOf_4cfef_2 cal]
set_option maxRecDepth 100000 in
theorem sJ1_indexOf_4cfef_0 {G : ab_G} {xs : List Int32} {d : Nat} {cal : ab_F} (hcs : ab_CS G (ab_Z G xs) ab_Mf cal d) : ab_Sd G (ab_Z G xs) (d + 1) (ab_mY mJ1_indexOf_4cfef pJ1_indexOf_4cfef) 0 (bJ1_indexOf_4cfef_0 cal) :=
  sn_iload_n dJ1_indexOf_4cfef_0 rfl <| sq_callS mt_238 hcs dJ1_indexOf_4cfef_1 w_791 w_792 w_70 w_793 hy_238 hm_238 <| sn_if_ne (tg := 9) dJ1_indexOf_4cfef_4 rfl rfl <| sn_iconst dJ1_indexOf_4cfef_7 rfl <| sn_ret dJ1_indexOf_4cfef_8 ab_ri_int
set_option maxRecDepth 100000 in
theorem sJ1_indexOf_4cfef_1 {G : ab_G} {xs : List Int32} {d : Nat} {cal : ab_F} (hcs : ab_CS G (ab_Z G xs) ab_Mf cal d) : ab_Sd G (ab_Z G xs) (d + 1) (ab_mY mJ1_indexOf_4cfef pJ1_indexOf_4cfef) 9 (bJ1_indexOf_4cfef_1 cal) :=
  sn_iload_n dJ1_indexOf_4cfef_9 rfl <| sn_iconst dJ1_indexOf_4cfef_10 rfl <| sn_mmax (Nat.le_add_left 1 _) rfl dJ1_indexOf_4cfef_11 w_794 w_375 w_66 w_376 <| sn_istore_n dJ1_indexOf_4cfef_14 rfl (by decide) <| sn_iload_n dJ1_indexOf_4cfef_15 rfl <| sn_aload_n dJ1_indexOf_4cfef_16 rfl <| sn_sblen dJ1_indexOf_4cfef_17 (fun U h => h.2.2.2.2.2.2.1) <| sn_mmin (Nat.le_add_left 1 _) rfl dJ1_indexOf_4cfef_18 w_795 w_372 w_66 w_373 <| sn_istore_n dJ1_indexOf_4cfef_21 rfl (by decide) <| sn_iload_n dJ1_indexOf_4cfef_22 rfl <| sn_iload_n dJ1_indexOf_4cfef_23 rfl <| sn_cmp_lt (tg := 29) dJ1_indexOf_4cfef_24 rfl rfl <| sn_iconst dJ1_indexOf_4cfef_27 rfl <| sn_ret dJ1_indexOf_4cfef_28 ab_ri_int
set_option maxRecDepth 100000 in
theorem sJ1_indexOf_4cfef_2 {G : ab_G} {xs : List Int32} {d : Nat} {cal : ab_F} (hcs : ab_CS G (ab_Z G xs) ab_Mf cal d) : ab_Sd G (ab_Z G xs) (d + 1) (ab_mY mJ1_indexOf_4cfef pJ1_indexOf_4cfef) 29 (bJ1_indexOf_4cfef_2 cal) :=
  sn_aload_n dJ1_indexOf_4cfef_29 rfl <| sn_iload_n dJ1_indexOf_4cfef_30 rfl <| sn_iload_n dJ1_indexOf_4cfef_31 rfl <| sn_iload_n dJ1_indexOf_4cfef_32 rfl <| sq_callS mt_240 hcs dJ1_indexOf_4cfef_33 w_796 w_797 w_70 w_798 hy_240 hm_240 <| sn_ret dJ1_indexOf_4cfef_36 ab_ri_int
theorem sJ1_indexOf_4cfef {G : ab_G} {xs : List Int32} {d : Nat} {cal : ab_F} (hcs : ab_CS G (ab_Z G xs) ab_Mf cal d) : ab_BS G (ab_Z G xs) (d + 1) (ab_mY mJ1_indexOf_4cfef pJ1_indexOf_4cfef) pJ1_indexOf_4cfef (bJ1_indexOf_4cfef cal) := ⟨sJ1_indexOf_4cfef_0 hcs, sJ1_indexOf_4cfef_1 hcs, sJ1_indexOf_4cfef_2 hcs, trivial⟩
theorem dgJ1_indexOfChar_4cfef_0 : decode cJ1_indexOfChar_4cfef 0 = .ok (.iload_n 1, 1) ∧ decode cJ1_indexOfChar_4cfef 1 = .ok (.i2b, 1) ∧ decode cJ1_indexOfChar_4cfef 2 = .ok (.istore 4, 2) ∧ decode cJ1_indexOfChar_4cfef 4 = .ok (.iload_n 2, 1) ∧ decode cJ1_indexOfChar_4cfef 5 = .ok (.istore 5, 2) ∧ decode cJ1_indexOfChar_4cfef 7 = .ok (.iload 5, 2) ∧ decode cJ1_indexOfChar_4cfef 9 = .ok (.iload_n 3, 1) ∧ decode cJ1_indexOfChar_4cfef 10 = .ok (.if_icmp .ge 21, 3) ∧ decode cJ1_indexOfChar_4cfef 13 = .ok (.aload_n 0, 1) ∧ decode cJ1_indexOfChar_4cfef 14 = .ok (.iload 5, 2) ∧ decode cJ1_indexOfChar_4cfef 16 = .ok (.baload, 1) ∧ decode cJ1_indexOfChar_4cfef 17 = .ok (.iload 4, 2) ∧ decode cJ1_indexOfChar_4cfef 19 = .ok (.if_icmp .ne 6, 3) ∧ decode cJ1_indexOfChar_4cfef 22 = .ok (.iload 5, 2) ∧ decode cJ1_indexOfChar_4cfef 24 = .ok (.ireturn, 1) ∧ decode cJ1_indexOfChar_4cfef 25 = .ok (.iinc 5 1, 3) := by decide +kernel
theorem dJ1_indexOfChar_4cfef_0 : decode cJ1_indexOfChar_4cfef 0 = .ok (.iload_n 1, 1) := dgJ1_indexOfChar_4cfef_0.1
theorem dJ1_indexOfChar_4cfef_1 : decode cJ1_indexOfChar_4cfef 1 = .ok (.i2b, 1) := dgJ1_indexOfChar_4cfef_0.2.1
theorem dJ1_indexOfChar_4cfef_2 : decode cJ1_indexOfChar_4cfef 2 = .ok (.istore 4, 2) := dgJ1_indexOfChar_4cfef_0.2.2.1
theorem dJ1_indexOfChar_4cfef_4 : decode cJ1_indexOfChar_4cfef 4 = .ok (.iload_n 2, 1) := dgJ1_indexOfChar_4cfef_0.2.2.2.1
theorem dJ1_indexOfChar_4cfef_5 : decode cJ1_indexOfChar_4cfef 5 = .ok (.istore 5, 2) := dgJ1_indexOfChar_4cfef_0.2.2.2.2.1
theorem dJ1_indexOfChar_4cfef_7 : decode cJ1_indexOfChar_4cfef 7 = .ok (.iload 5, 2) := dgJ1_indexOfChar_4cfef_0.2.2.2.2.2.1
theorem dJ1_indexOfChar_4cfef_9 : decode cJ1_indexOfChar_4cfef 9 = .ok (.iload_n 3, 1) := dgJ1_indexOfChar_4cfef_0.2.2.2.2.2.2.1
theorem dJ1_indexOfChar_4cfef_10 : decode cJ1_indexOfChar_4cfef 10 = .ok (.if_icmp .ge 21, 3) := dgJ1_indexOfChar_4cfef_0.2.2.2.2.2.2.2.1
theorem dJ1_indexOfChar_4cfef_13 : decode cJ1_indexOfChar_4cfef 13 = .ok (.aload_n 0, 1) := dgJ1_indexOfChar_4cfef_0.2.2.2.2.2.2.2.2.1
theorem dJ1_indexOfChar_4cfef_14 : decode cJ1_indexOfChar_4cfef 14 = .ok (.iload 5, 2) := dgJ1_indexOfChar_4cfef_0.2.2.2.2.2.2.2.2.2.1
theorem dJ1_indexOfChar_4cfef_16 : decode cJ1_indexOfChar_4cfef 16 = .ok (.baload, 1) := dgJ1_indexOfChar_4cfef_0.2.2.2.2.2.2.2.2.2.2.1
theorem dJ1_indexOfChar_4cfef_17 : decode cJ1_indexOfChar_4cfef 17 = .ok (.iload 4, 2) := dgJ1_indexOfChar_4cfef_0.2.2.2.2.2.2.2.2.2.2.2.1
theorem dJ1_indexOfChar_4cfef_19 : decode cJ1_indexOfChar_4cfef 19 = .ok (.if_icmp .ne 6, 3) := dgJ1_indexOfChar_4cfef_0.2.2.2.2.2.2.2.2.2.2.2.2.1
theorem dJ1_indexOfChar_4cfef_22 : decode cJ1_indexOfChar_4cfef 22 = .ok (.iload 5, 2) := dgJ1_indexOfChar_4cfef_0.2.2.2.2.2.2.2.2.2.2.2.2.2.1
theorem dJ1_indexOfChar_4cfef_24 : decode cJ1_indexOfChar_4cfef 24 = .ok (.ireturn, 1) := dgJ1_indexOfChar_4cfef_0.2.2.2.2.2.2.2.2.2.2.2.2.2.2.1
theorem dJ1_indexOfChar_4cfef_25 : decode cJ1_indexOfChar_4cfef 25 = .ok (.iinc 5 1, 3) := dgJ1_indexOfChar_4cfef_0.2.2.2.2.2.2.2.2.2.2.2.2.2.2.2
theorem dgJ1_indexOfChar_4cfef_1 : decode cJ1_indexOfChar_4cfef 28 = .ok (.goto (-21), 3) ∧ decode cJ1_indexOfChar_4cfef 31 = .ok (.iconst (-1), 1) ∧ decode cJ1_indexOfChar_4cfef 32 = .ok (.ireturn, 1) := by decide +kernel
theorem dJ1_indexOfChar_4cfef_28 : decode cJ1_indexOfChar_4cfef 28 = .ok (.goto (-21), 3) := dgJ1_indexOfChar_4cfef_1.1
theorem dJ1_indexOfChar_4cfef_31 : decode cJ1_indexOfChar_4cfef 31 = .ok (.iconst (-1), 1) := dgJ1_indexOfChar_4cfef_1.2.1
theorem dJ1_indexOfChar_4cfef_32 : decode cJ1_indexOfChar_4cfef 32 = .ok (.ireturn, 1) := dgJ1_indexOfChar_4cfef_1.2.2
abbrev pJ1_indexOfChar_4cfef : List Nat := [0, 7, 25, 31]
def bJ1_indexOfChar_4cfef_0 (cal : ab_F) : ab_K := o_iload 1 <| o_un (fun x => x.toInt8.toInt32) <| o_istore 4 <| o_iload 2 <| o_istore 5 <| o_goto 1
def bJ1_indexOfChar_4cfef_1 (cal : ab_F) : ab_K := o_iload 5 <| o_iload 3 <| o_cmp (fun x y => decide (y ≤ x)) 3 <| o_aload 0 <| o_iload 5 <| o_sbal <| o_iload 4 <| o_cmp (fun x y => decide (¬ x = y)) 2 <| o_iload 5 <| o_ret (some .int)
def bJ1_indexOfChar_4cfef_2 (cal : ab_F) : ab_K := o_iinc 5 1 <| o_goto 1
def bJ1_indexOfChar_4cfef_3 (cal : ab_F) : ab_K := o_push (.int (-1)) <| o_ret (some .int)
def bJ1_indexOfChar_4cfef (cal : ab_F) : List ab_K := [bJ1_indexOfChar_4cfef_0 cal, bJ1_indexOfChar_4cfef_1 cal, bJ1_indexOfChar_4cfef_2 cal, bJ1_indexOfChar_4cfef_3 cal]
set_option maxRecDepth 100000 in
theorem sJ1_indexOfChar_4cfef_0 {G : ab_G} {xs : List Int32} {d : Nat} {cal : ab_F} (hcs : ab_CS G (ab_Z G xs) ab_Mf cal d) : ab_Sd G (ab_Z G xs) (d + 1) (ab_mY mJ1_indexOfChar_4cfef pJ1_indexOfChar_4cfef) 0 (bJ1_indexOfChar_4cfef_0 cal) :=
  sn_iload_n dJ1_indexOfChar_4cfef_0 rfl <| sn_i2b dJ1_indexOfChar_4cfef_1 <| sn_istore dJ1_indexOfChar_4cfef_2 (by decide) <| sn_iload_n dJ1_indexOfChar_4cfef_4 rfl <| sn_istore dJ1_indexOfChar_4cfef_5 (by decide) <| sn_next rfl
set_option maxRecDepth 100000 in
theorem sJ1_indexOfChar_4cfef_1 {G : ab_G} {xs : List Int32} {d : Nat} {cal : ab_F} (hcs : ab_CS G (ab_Z G xs) ab_Mf cal d) : ab_Sd G (ab_Z G xs) (d + 1) (ab_mY mJ1_indexOfChar_4cfef pJ1_indexOfChar_4cfef) 7 (bJ1_indexOfChar_4cfef_1 cal) :=
  sn_iload dJ1_indexOfChar_4cfef_7 <| sn_iload_n dJ1_indexOfChar_4cfef_9 rfl <| sn_cmp_ge (tg := 31) dJ1_indexOfChar_4cfef_10 rfl rfl <| sn_aload_n dJ1_indexOfChar_4cfef_13 rfl <| sn_iload dJ1_indexOfChar_4cfef_14 <| sn_sbal dJ1_indexOfChar_4cfef_16 (fun U h => h.2.2.2.2.2.2.1) <| sn_iload dJ1_indexOfChar_4cfef_17 <| sn_cmp_ne (tg := 25) dJ1_indexOfChar_4cfef_19 rfl rfl <| sn_iload dJ1_indexOfChar_4cfef_22 <| sn_ret dJ1_indexOfChar_4cfef_24 ab_ri_int
set_option maxRecDepth 100000 in
theorem sJ1_indexOfChar_4cfef_2 {G : ab_G} {xs : List Int32} {d : Nat} {cal : ab_F} (hcs : ab_CS G (ab_Z G xs) ab_Mf cal d) : ab_Sd G (ab_Z G xs) (d + 1) (ab_mY mJ1_indexOfChar_4cfef pJ1_indexOfChar_4cfef) 25 (bJ1_indexOfChar_4cfef_2 cal) :=
  sn_iinc dJ1_indexOfChar_4cfef_25 rfl (by decide) <| sn_goto (tg := 7) dJ1_indexOfChar_4cfef_28 rfl rfl
set_option maxRecDepth 100000 in
theorem sJ1_indexOfChar_4cfef_3 {G : ab_G} {xs : List Int32} {d : Nat} {cal : ab_F} (hcs : ab_CS G (ab_Z G xs) ab_Mf cal d) : ab_Sd G (ab_Z G xs) (d + 1) (ab_mY mJ1_indexOfChar_4cfef pJ1_indexOfChar_4cfef) 31 (bJ1_indexOfChar_4cfef_3 cal) :=
  sn_iconst dJ1_indexOfChar_4cfef_31 rfl <| sn_ret dJ1_indexOfChar_4cfef_32 ab_ri_int
theorem sJ1_indexOfChar_4cfef {G : ab_G} {xs : List Int32} {d : Nat} {cal : ab_F} (hcs : ab_CS G (ab_Z G xs) ab_Mf cal d) : ab_BS G (ab_Z G xs) (d + 1) (ab_mY mJ1_indexOfChar_4cfef pJ1_indexOfChar_4cfef) pJ1_indexOfChar_4cfef (bJ1_indexOfChar_4cfef cal) := ⟨sJ1_indexOfChar_4cfef_0 hcs, sJ1_indexOfChar_4cfef_1 hcs, sJ1_indexOfChar_4cfef_2 hcs, sJ1_indexOfChar_4cfef_3 hcs, trivial⟩
theorem dgJ2_getChar_3b067_0 : decode cJ2_getChar_3b067 0 = .ok (.getstatic 44, 3) ∧ decode cJ2_getChar_3b067 3 = .ok (.ifCond .ne 25, 3) ∧ decode cJ2_getChar_3b067 6 = .ok (.iload_n 1, 1) ∧ decode cJ2_getChar_3b067 7 = .ok (.ifCond .lt 11, 3) ∧ decode cJ2_getChar_3b067 10 = .ok (.iload_n 1, 1) ∧ decode cJ2_getChar_3b067 11 = .ok (.aload_n 0, 1) ∧ decode cJ2_getChar_3b067 12 = .ok (.invokestatic 48, 3) ∧ decode cJ2_getChar_3b067 15 = .ok (.if_icmp .lt 13, 3) ∧ decode cJ2_getChar_3b067 18 = .ok (.new 52, 3) ∧ decode cJ2_getChar_3b067 21 = .ok (.dup, 1) ∧ decode cJ2_getChar_3b067 22 = .ok (.ldc 54, 2) ∧ decode cJ2_getChar_3b067 24 = .ok (.invokespecial 56, 3) ∧ decode cJ2_getChar_3b067 27 = .ok (.athrow, 1) ∧ decode cJ2_getChar_3b067 28 = .ok (.iload_n 1, 1) ∧ decode cJ2_getChar_3b067 29 = .ok (.iconst 1, 1) ∧ decode cJ2_getChar_3b067 30 = .ok (.ishl, 1) := by decide +kernel
theorem dJ2_getChar_3b067_28 : decode cJ2_getChar_3b067 28 = .ok (.iload_n 1, 1) := dgJ2_getChar_3b067_0.2.2.2.2.2.2.2.2.2.2.2.2.2.1
theorem dJ2_getChar_3b067_29 : decode cJ2_getChar_3b067 29 = .ok (.iconst 1, 1) := dgJ2_getChar_3b067_0.2.2.2.2.2.2.2.2.2.2.2.2.2.2.1
theorem dJ2_getChar_3b067_30 : decode cJ2_getChar_3b067 30 = .ok (.ishl, 1) := dgJ2_getChar_3b067_0.2.2.2.2.2.2.2.2.2.2.2.2.2.2.2
theorem dgJ2_getChar_3b067_1 : decode cJ2_getChar_3b067 31 = .ok (.istore_n 1, 1) ∧ decode cJ2_getChar_3b067 32 = .ok (.aload_n 0, 1) ∧ decode cJ2_getChar_3b067 33 = .ok (.iload_n 1, 1) ∧ decode cJ2_getChar_3b067 34 = .ok (.iinc 1 1, 3) ∧ decode cJ2_getChar_3b067 37 = .ok (.baload, 1) ∧ decode cJ2_getChar_3b067 38 = .ok (.sipush 255, 3) ∧ decode cJ2_getChar_3b067 41 = .ok (.iand, 1) ∧ decode cJ2_getChar_3b067 42 = .ok (.getstatic 59, 3) ∧ decode cJ2_getChar_3b067 45 = .ok (.ishl, 1) ∧ decode cJ2_getChar_3b067 46 = .ok (.aload_n 0, 1) ∧ decode cJ2_getChar_3b067 47 = .ok (.iload_n 1, 1) ∧ decode cJ2_getChar_3b067 48 = .ok (.baload, 1) ∧ decode cJ2_getChar_3b067 49 = .ok (.sipush 255, 3) ∧ decode cJ2_getChar_3b067 52 = .ok (.iand, 1) ∧ decode cJ2_getChar_3b067 53 = .ok (.getstatic 63, 3) ∧ decode cJ2_getChar_3b067 56 = .ok (.ishl, 1) := by decide +kernel
theorem dJ2_getChar_3b067_31 : decode cJ2_getChar_3b067 31 = .ok (.istore_n 1, 1) := dgJ2_getChar_3b067_1.1
theorem dJ2_getChar_3b067_32 : decode cJ2_getChar_3b067 32 = .ok (.aload_n 0, 1) := dgJ2_getChar_3b067_1.2.1
theorem dJ2_getChar_3b067_33 : decode cJ2_getChar_3b067 33 = .ok (.iload_n 1, 1) := dgJ2_getChar_3b067_1.2.2.1
theorem dJ2_getChar_3b067_34 : decode cJ2_getChar_3b067 34 = .ok (.iinc 1 1, 3) := dgJ2_getChar_3b067_1.2.2.2.1
theorem dJ2_getChar_3b067_37 : decode cJ2_getChar_3b067 37 = .ok (.baload, 1) := dgJ2_getChar_3b067_1.2.2.2.2.1
theorem dJ2_getChar_3b067_38 : decode cJ2_getChar_3b067 38 = .ok (.sipush 255, 3) := dgJ2_getChar_3b067_1.2.2.2.2.2.1
theorem dJ2_getChar_3b067_41 : decode cJ2_getChar_3b067 41 = .ok (.iand, 1) := dgJ2_getChar_3b067_1.2.2.2.2.2.2.1
abbrev pJ2_getChar_3b067 : List Nat := [0, 18, 28]
def bJ2_getChar_3b067_0 (cal : ab_F) : ab_K := (fun _ _ _ => none)
def bJ2_getChar_3b067_1 (cal : ab_F) : ab_K := (fun _ _ _ => none)
def bJ2_getChar_3b067_2 (cal : ab_F) : ab_K := o_iload 1 <| o_push (.int 1) <| o_bin (fun x y => x <<< (y &&& 31)) <| o_istore 1 <| o_aload 0 <| o_iload 1 <| o_iinc 1 1 <| o_sbal <| o_push (.int 255) <| o_bin (fun x y => x &&& y) <| (fun _ _ _ => none)
def bJ2_getChar_3b067 (cal : ab_F) : List ab_K := [bJ2_getChar_3b067_0 cal, bJ2_getChar_3b067_1 cal, bJ2_getChar_3b067_2 cal]
set_option maxRecDepth 100000 in
theorem sJ2_getChar_3b067_0 {G : ab_G} {xs : List Int32} {d : Nat} {cal : ab_F} (hcs : ab_CS G (ab_Z G xs) ab_Mf cal d) : ab_Sd G (ab_Z G xs) (d + 1) (ab_mY mJ2_getChar_3b067 pJ2_getChar_3b067) 0 (bJ2_getChar_3b067_0 cal) :=
  ab_Sd.fail
set_option maxRecDepth 100000 in
theorem sJ2_getChar_3b067_1 {G : ab_G} {xs : List Int32} {d : Nat} {cal : ab_F} (hcs : ab_CS G (ab_Z G xs) ab_Mf cal d) : ab_Sd G (ab_Z G xs) (d + 1) (ab_mY mJ2_getChar_3b067 pJ2_getChar_3b067) 18 (bJ2_getChar_3b067_1 cal) :=
  ab_Sd.fail
set_option maxRecDepth 100000 in
theorem sJ2_getChar_3b067_2 {G : ab_G} {xs : List Int32} {d : Nat} {cal : ab_F} (hcs : ab_CS G (ab_Z G xs) ab_Mf cal d) : ab_Sd G (ab_Z G xs) (d + 1) (ab_mY mJ2_getChar_3b067 pJ2_getChar_3b067) 28 (bJ2_getChar_3b067_2 cal) :=
  sn_iload_n dJ2_getChar_3b067_28 rfl <| sn_iconst dJ2_getChar_3b067_29 rfl <| sn_ishl dJ2_getChar_3b067_30 <| sn_istore_n dJ2_getChar_3b067_31 rfl (by decide) <| sn_aload_n dJ2_getChar_3b067_32 rfl <| sn_iload_n dJ2_getChar_3b067_33 rfl <| sn_iinc dJ2_getChar_3b067_34 rfl (by decide) <| sn_sbal dJ2_getChar_3b067_37 (fun U h => h.2.2.2.2.2.2.1) <| sn_sipush dJ2_getChar_3b067_38 rfl <| sn_iand dJ2_getChar_3b067_41 <| ab_Sd.fail
theorem sJ2_getChar_3b067 {G : ab_G} {xs : List Int32} {d : Nat} {cal : ab_F} (hcs : ab_CS G (ab_Z G xs) ab_Mf cal d) : ab_BS G (ab_Z G xs) (d + 1) (ab_mY mJ2_getChar_3b067 pJ2_getChar_3b067) pJ2_getChar_3b067 (bJ2_getChar_3b067 cal) := ⟨sJ2_getChar_3b067_0 hcs, sJ2_getChar_3b067_1 hcs, sJ2_getChar_3b067_2 hcs, trivial⟩
theorem dgJ2_length_9d52b_0 : decode cJ2_length_9d52b 0 = .ok (.aload_n 0, 1) ∧ decode cJ2_length_9d52b 1 = .ok (.arraylength, 1) ∧ decode cJ2_length_9d52b 2 = .ok (.iconst 1, 1) ∧ decode cJ2_length_9d52b 3 = .ok (.ishr, 1) ∧ decode cJ2_length_9d52b 4 = .ok (.ireturn, 1) := by decide +kernel
theorem dJ2_length_9d52b_0 : decode cJ2_length_9d52b 0 = .ok (.aload_n 0, 1) := dgJ2_length_9d52b_0.1
theorem dJ2_length_9d52b_1 : decode cJ2_length_9d52b 1 = .ok (.arraylength, 1) := dgJ2_length_9d52b_0.2.1
theorem dJ2_length_9d52b_2 : decode cJ2_length_9d52b 2 = .ok (.iconst 1, 1) := dgJ2_length_9d52b_0.2.2.1
theorem dJ2_length_9d52b_3 : decode cJ2_length_9d52b 3 = .ok (.ishr, 1) := dgJ2_length_9d52b_0.2.2.2.1
theorem dJ2_length_9d52b_4 : decode cJ2_length_9d52b 4 = .ok (.ireturn, 1) := dgJ2_length_9d52b_0.2.2.2.2
abbrev pJ2_length_9d52b : List Nat := [0]
def bJ2_length_9d52b_0 (cal : ab_F) : ab_K := o_aload 0 <| o_sblen <| o_push (.int 1) <| o_bin (fun x y => x >>> (y &&& 31)) <| o_ret (some .int)
def bJ2_length_9d52b (cal : ab_F) : List ab_K := [bJ2_length_9d52b_0 cal]
set_option maxRecDepth 100000 in
theorem sJ2_length_9d52b_0 {G : ab_G} {xs : List Int32} {d : Nat} {cal : ab_F} (hcs : ab_CS G (ab_Z G xs) ab_Mf cal d) : ab_Sd G (ab_Z G xs) (d + 1) (ab_mY mJ2_length_9d52b pJ2_length_9d52b) 0 (bJ2_length_9d52b_0 cal) :=
  sn_aload_n dJ2_length_9d52b_0 rfl <| sn_sblen dJ2_length_9d52b_1 (fun U h => h.2.2.2.2.2.2.1) <| sn_iconst dJ2_length_9d52b_2 rfl <| sn_ishr dJ2_length_9d52b_3 <| sn_ret dJ2_length_9d52b_4 ab_ri_int
theorem sJ2_length_9d52b {G : ab_G} {xs : List Int32} {d : Nat} {cal : ab_F} (hcs : ab_CS G (ab_Z G xs) ab_Mf cal d) : ab_BS G (ab_Z G xs) (d + 1) (ab_mY mJ2_length_9d52b pJ2_length_9d52b) pJ2_length_9d52b (bJ2_length_9d52b cal) := ⟨sJ2_length_9d52b_0 hcs, trivial⟩
theorem dgJ2_indexOf_4cfef_0 : decode cJ2_indexOf_4cfef 0 = .ok (.iload_n 2, 1) ∧ decode cJ2_indexOf_4cfef 1 = .ok (.iconst 0, 1) ∧ decode cJ2_indexOf_4cfef 2 = .ok (.invokestatic 224, 3) ∧ decode cJ2_indexOf_4cfef 5 = .ok (.istore_n 2, 1) ∧ decode cJ2_indexOf_4cfef 6 = .ok (.iload_n 3, 1) ∧ decode cJ2_indexOf_4cfef 7 = .ok (.aload_n 0, 1) ∧ decode cJ2_indexOf_4cfef 8 = .ok (.arraylength, 1) ∧ decode cJ2_indexOf_4cfef 9 = .ok (.iconst 1, 1) ∧ decode cJ2_indexOf_4cfef 10 = .ok (.ishr, 1) ∧ decode cJ2_indexOf_4cfef 11 = .ok (.invokestatic 183, 3) ∧ decode cJ2_indexOf_4cfef 14 = .ok (.istore_n 3, 1) ∧ decode cJ2_indexOf_4cfef 15 = .ok (.iload_n 2, 1) ∧ decode cJ2_indexOf_4cfef 16 = .ok (.iload_n 3, 1) ∧ decode cJ2_indexOf_4cfef 17 = .ok (.if_icmp .lt 5, 3) ∧ decode cJ2_indexOf_4cfef 20 = .ok (.iconst (-1), 1) ∧ decode cJ2_indexOf_4cfef 21 = .ok (.ireturn, 1) := by decide +kernel
theorem dJ2_indexOf_4cfef_0 : decode cJ2_indexOf_4cfef 0 = .ok (.iload_n 2, 1) := dgJ2_indexOf_4cfef_0.1
theorem dJ2_indexOf_4cfef_1 : decode cJ2_indexOf_4cfef 1 = .ok (.iconst 0, 1) := dgJ2_indexOf_4cfef_0.2.1
theorem dJ2_indexOf_4cfef_2 : decode cJ2_indexOf_4cfef 2 = .ok (.invokestatic 224, 3) := dgJ2_indexOf_4cfef_0.2.2.1
theorem dJ2_indexOf_4cfef_5 : decode cJ2_indexOf_4cfef 5 = .ok (.istore_n 2, 1) := dgJ2_indexOf_4cfef_0.2.2.2.1
theorem dJ2_indexOf_4cfef_6 : decode cJ2_indexOf_4cfef 6 = .ok (.iload_n 3, 1) := dgJ2_indexOf_4cfef_0.2.2.2.2.1
theorem dJ2_indexOf_4cfef_7 : decode cJ2_indexOf_4cfef 7 = .ok (.aload_n 0, 1) := dgJ2_indexOf_4cfef_0.2.2.2.2.2.1
theorem dJ2_indexOf_4cfef_8 : decode cJ2_indexOf_4cfef 8 = .ok (.arraylength, 1) := dgJ2_indexOf_4cfef_0.2.2.2.2.2.2.1
theorem dJ2_indexOf_4cfef_9 : decode cJ2_indexOf_4cfef 9 = .ok (.iconst 1, 1) := dgJ2_indexOf_4cfef_0.2.2.2.2.2.2.2.1
theorem dJ2_indexOf_4cfef_10 : decode cJ2_indexOf_4cfef 10 = .ok (.ishr, 1) := dgJ2_indexOf_4cfef_0.2.2.2.2.2.2.2.2.1
theorem dJ2_indexOf_4cfef_11 : decode cJ2_indexOf_4cfef 11 = .ok (.invokestatic 183, 3) := dgJ2_indexOf_4cfef_0.2.2.2.2.2.2.2.2.2.1
theorem dJ2_indexOf_4cfef_14 : decode cJ2_indexOf_4cfef 14 = .ok (.istore_n 3, 1) := dgJ2_indexOf_4cfef_0.2.2.2.2.2.2.2.2.2.2.1
theorem dJ2_indexOf_4cfef_15 : decode cJ2_indexOf_4cfef 15 = .ok (.iload_n 2, 1) := dgJ2_indexOf_4cfef_0.2.2.2.2.2.2.2.2.2.2.2.1
theorem dJ2_indexOf_4cfef_16 : decode cJ2_indexOf_4cfef 16 = .ok (.iload_n 3, 1) := dgJ2_indexOf_4cfef_0.2.2.2.2.2.2.2.2.2.2.2.2.1
theorem dJ2_indexOf_4cfef_17 : decode cJ2_indexOf_4cfef 17 = .ok (.if_icmp .lt 5, 3) := dgJ2_indexOf_4cfef_0.2.2.2.2.2.2.2.2.2.2.2.2.2.1
theorem dJ2_indexOf_4cfef_20 : decode cJ2_indexOf_4cfef 20 = .ok (.iconst (-1), 1) := dgJ2_indexOf_4cfef_0.2.2.2.2.2.2.2.2.2.2.2.2.2.2.1
theorem dJ2_indexOf_4cfef_21 : decode cJ2_indexOf_4cfef 21 = .ok (.ireturn, 1) := dgJ2_indexOf_4cfef_0.2.2.2.2.2.2.2.2.2.2.2.2.2.2.2
theorem dgJ2_indexOf_4cfef_1 : decode cJ2_indexOf_4cfef 22 = .ok (.iload_n 1, 1) ∧ decode cJ2_indexOf_4cfef 23 = .ok (.ldc 227, 2) ∧ decode cJ2_indexOf_4cfef 25 = .ok (.if_icmp .ge 11, 3) ∧ decode cJ2_indexOf_4cfef 28 = .ok (.aload_n 0, 1) ∧ decode cJ2_indexOf_4cfef 29 = .ok (.iload_n 1, 1) ∧ decode cJ2_indexOf_4cfef 30 = .ok (.iload_n 2, 1) ∧ decode cJ2_indexOf_4cfef 31 = .ok (.iload_n 3, 1) ∧ decode cJ2_indexOf_4cfef 32 = .ok (.invokestatic 228, 3) ∧ decode cJ2_indexOf_4cfef 35 = .ok (.ireturn, 1) ∧ decode cJ2_indexOf_4cfef 36 = .ok (.aload_n 0, 1) ∧ decode cJ2_indexOf_4cfef 37 = .ok (.iload_n 1, 1) ∧ decode cJ2_indexOf_4cfef 38 = .ok (.iload_n 2, 1) ∧ decode cJ2_indexOf_4cfef 39 = .ok (.iload_n 3, 1) ∧ decode cJ2_indexOf_4cfef 40 = .ok (.invokestatic 232, 3) ∧ decode cJ2_indexOf_4cfef 43 = .ok (.ireturn, 1) := by decide +kernel
theorem dJ2_indexOf_4cfef_22 : decode cJ2_indexOf_4cfef 22 = .ok (.iload_n 1, 1) := dgJ2_indexOf_4cfef_1.1
theorem dJ2_indexOf_4cfef_23 : decode cJ2_indexOf_4cfef 23 = .ok (.ldc 227, 2) := dgJ2_indexOf_4cfef_1.2.1
theorem dJ2_indexOf_4cfef_25 : decode cJ2_indexOf_4cfef 25 = .ok (.if_icmp .ge 11, 3) := dgJ2_indexOf_4cfef_1.2.2.1
theorem dJ2_indexOf_4cfef_28 : decode cJ2_indexOf_4cfef 28 = .ok (.aload_n 0, 1) := dgJ2_indexOf_4cfef_1.2.2.2.1
theorem dJ2_indexOf_4cfef_29 : decode cJ2_indexOf_4cfef 29 = .ok (.iload_n 1, 1) := dgJ2_indexOf_4cfef_1.2.2.2.2.1
theorem dJ2_indexOf_4cfef_30 : decode cJ2_indexOf_4cfef 30 = .ok (.iload_n 2, 1) := dgJ2_indexOf_4cfef_1.2.2.2.2.2.1
theorem dJ2_indexOf_4cfef_31 : decode cJ2_indexOf_4cfef 31 = .ok (.iload_n 3, 1) := dgJ2_indexOf_4cfef_1.2.2.2.2.2.2.1
theorem dJ2_indexOf_4cfef_36 : decode cJ2_indexOf_4cfef 36 = .ok (.aload_n 0, 1) := dgJ2_indexOf_4cfef_1.2.2.2.2.2.2.2.2.2.1
theorem dJ2_indexOf_4cfef_37 : decode cJ2_indexOf_4cfef 37 = .ok (.iload_n 1, 1) := dgJ2_indexOf_4cfef_1.2.2.2.2.2.2.2.2.2.2.1
theorem dJ2_indexOf_4cfef_38 : decode cJ2_indexOf_4cfef 38 = .ok (.iload_n 2, 1) := dgJ2_indexOf_4cfef_1.2.2.2.2.2.2.2.2.2.2.2.1
theorem dJ2_indexOf_4cfef_39 : decode cJ2_indexOf_4cfef 39 = .ok (.iload_n 3, 1) := dgJ2_indexOf_4cfef_1.2.2.2.2.2.2.2.2.2.2.2.2.1
abbrev pJ2_indexOf_4cfef : List Nat := [0, 22, 36]
def bJ2_indexOf_4cfef_0 (cal : ab_F) : ab_K := o_iload 2 <| o_push (.int 0) <| o_m2 (fun x y => if x < y then y else x) <| o_istore 2 <| o_iload 3 <| o_aload 0 <| o_sblen <| o_push (.int 1) <| o_bin (fun x y => x >>> (y &&& 31)) <| o_m2 (fun x y => if y < x then y else x) <| o_istore 3 <| o_iload 2 <| o_iload 3 <| o_cmp (fun x y => decide (x < y)) 1 <| o_push (.int (-1)) <| o_ret (some .int)
def bJ2_indexOf_4cfef_1 (cal : ab_F) : ab_K := o_iload 1 <| o_push (.int 65536) <| o_cmp (fun x y => decide (y ≤ x)) 2 <| o_aload 0 <| o_iload 1 <| o_iload 2 <| o_iload 3 <| (fun _ _ _ => none)
def bJ2_indexOf_4cfef_2 (cal : ab_F) : ab_K := o_aload 0 <| o_iload 1 <| o_iload 2 <| o_iload 3 <| (fun _ _ _ => none)
def bJ2_indexOf_4cfef (cal : ab_F) : List ab_K := [bJ2_indexOf_4cfef_0 cal, bJ2_indexOf_4cfef_1 cal, bJ2_indexOf_4cfef_2 cal]
set_option maxRecDepth 100000 in
theorem sJ2_indexOf_4cfef_0 {G : ab_G} {xs : List Int32} {d : Nat} {cal : ab_F} (hcs : ab_CS G (ab_Z G xs) ab_Mf cal d) : ab_Sd G (ab_Z G xs) (d + 1) (ab_mY mJ2_indexOf_4cfef pJ2_indexOf_4cfef) 0 (bJ2_indexOf_4cfef_0 cal) :=
  sn_iload_n dJ2_indexOf_4cfef_0 rfl <| sn_iconst dJ2_indexOf_4cfef_1 rfl <| sn_mmax (Nat.le_add_left 1 _) rfl dJ2_indexOf_4cfef_2 w_802 w_375 w_66 w_376 <| sn_istore_n dJ2_indexOf_4cfef_5 rfl (by decide) <| sn_iload_n dJ2_indexOf_4cfef_6 rfl <| sn_aload_n dJ2_indexOf_4cfef_7 rfl <| sn_sblen dJ2_indexOf_4cfef_8 (fun U h => h.2.2.2.2.2.2.1) <| sn_iconst dJ2_indexOf_4cfef_9 rfl <| sn_ishr dJ2_indexOf_4cfef_10 <| sn_mmin (Nat.le_add_left 1 _) rfl dJ2_indexOf_4cfef_11 w_803 w_372 w_66 w_373 <| sn_istore_n dJ2_indexOf_4cfef_14 rfl (by decide) <| sn_iload_n dJ2_indexOf_4cfef_15 rfl <| sn_iload_n dJ2_indexOf_4cfef_16 rfl <| sn_cmp_lt (tg := 22) dJ2_indexOf_4cfef_17 rfl rfl <| sn_iconst dJ2_indexOf_4cfef_20 rfl <| sn_ret dJ2_indexOf_4cfef_21 ab_ri_int
set_option maxRecDepth 100000 in
theorem sJ2_indexOf_4cfef_1 {G : ab_G} {xs : List Int32} {d : Nat} {cal : ab_F} (hcs : ab_CS G (ab_Z G xs) ab_Mf cal d) : ab_Sd G (ab_Z G xs) (d + 1) (ab_mY mJ2_indexOf_4cfef pJ2_indexOf_4cfef) 22 (bJ2_indexOf_4cfef_1 cal) :=
  sn_iload_n dJ2_indexOf_4cfef_22 rfl <| sn_ldc dJ2_indexOf_4cfef_23 w_804 <| sn_cmp_ge (tg := 36) dJ2_indexOf_4cfef_25 rfl rfl <| sn_aload_n dJ2_indexOf_4cfef_28 rfl <| sn_iload_n dJ2_indexOf_4cfef_29 rfl <| sn_iload_n dJ2_indexOf_4cfef_30 rfl <| sn_iload_n dJ2_indexOf_4cfef_31 rfl <| ab_Sd.fail
set_option maxRecDepth 100000 in
theorem sJ2_indexOf_4cfef_2 {G : ab_G} {xs : List Int32} {d : Nat} {cal : ab_F} (hcs : ab_CS G (ab_Z G xs) ab_Mf cal d) : ab_Sd G (ab_Z G xs) (d + 1) (ab_mY mJ2_indexOf_4cfef pJ2_indexOf_4cfef) 36 (bJ2_indexOf_4cfef_2 cal) :=
  sn_aload_n dJ2_indexOf_4cfef_36 rfl <| sn_iload_n dJ2_indexOf_4cfef_37 rfl <| sn_iload_n dJ2_indexOf_4cfef_38 rfl <| sn_iload_n dJ2_indexOf_4cfef_39 rfl <| ab_Sd.fail
theorem sJ2_indexOf_4cfef {G : ab_G} {xs : List Int32} {d : Nat} {cal : ab_F} (hcs : ab_CS G (ab_Z G xs) ab_Mf cal d) : ab_BS G (ab_Z G xs) (d + 1) (ab_mY mJ2_indexOf_4cfef pJ2_indexOf_4cfef) pJ2_indexOf_4cfef (bJ2_indexOf_4cfef cal) := ⟨sJ2_indexOf_4cfef_0 hcs, sJ2_indexOf_4cfef_1 hcs, sJ2_indexOf_4cfef_2 hcs, trivial⟩
theorem dgJ2_indexOfChar_4cfef_0 : decode cJ2_indexOfChar_4cfef 0 = .ok (.iload_n 2, 1) ∧ decode cJ2_indexOfChar_4cfef 1 = .ok (.iload_n 3, 1) ∧ decode cJ2_indexOfChar_4cfef 2 = .ok (.aload_n 0, 1) ∧ decode cJ2_indexOfChar_4cfef 3 = .ok (.invokestatic 96, 3) ∧ decode cJ2_indexOfChar_4cfef 6 = .ok (.aload_n 0, 1) ∧ decode cJ2_indexOfChar_4cfef 7 = .ok (.iload_n 1, 1) ∧ decode cJ2_indexOfChar_4cfef 8 = .ok (.iload_n 2, 1) ∧ decode cJ2_indexOfChar_4cfef 9 = .ok (.iload_n 3, 1) ∧ decode cJ2_indexOfChar_4cfef 10 = .ok (.invokestatic 244, 3) ∧ decode cJ2_indexOfChar_4cfef 13 = .ok (.ireturn, 1) := by decide +kernel
theorem dJ2_indexOfChar_4cfef_0 : decode cJ2_indexOfChar_4cfef 0 = .ok (.iload_n 2, 1) := dgJ2_indexOfChar_4cfef_0.1
theorem dJ2_indexOfChar_4cfef_1 : decode cJ2_indexOfChar_4cfef 1 = .ok (.iload_n 3, 1) := dgJ2_indexOfChar_4cfef_0.2.1
theorem dJ2_indexOfChar_4cfef_2 : decode cJ2_indexOfChar_4cfef 2 = .ok (.aload_n 0, 1) := dgJ2_indexOfChar_4cfef_0.2.2.1
abbrev pJ2_indexOfChar_4cfef : List Nat := [0]
def bJ2_indexOfChar_4cfef_0 (cal : ab_F) : ab_K := o_iload 2 <| o_iload 3 <| o_aload 0 <| (fun _ _ _ => none)
def bJ2_indexOfChar_4cfef (cal : ab_F) : List ab_K := [bJ2_indexOfChar_4cfef_0 cal]
set_option maxRecDepth 100000 in
theorem sJ2_indexOfChar_4cfef_0 {G : ab_G} {xs : List Int32} {d : Nat} {cal : ab_F} (hcs : ab_CS G (ab_Z G xs) ab_Mf cal d) : ab_Sd G (ab_Z G xs) (d + 1) (ab_mY mJ2_indexOfChar_4cfef pJ2_indexOfChar_4cfef) 0 (bJ2_indexOfChar_4cfef_0 cal) :=
  sn_iload_n dJ2_indexOfChar_4cfef_0 rfl <| sn_iload_n dJ2_indexOfChar_4cfef_1 rfl <| sn_aload_n dJ2_indexOfChar_4cfef_2 rfl <| ab_Sd.fail
theorem sJ2_indexOfChar_4cfef {G : ab_G} {xs : List Int32} {d : Nat} {cal : ab_F} (hcs : ab_CS G (ab_Z G xs) ab_Mf cal d) : ab_BS G (ab_Z G xs) (d + 1) (ab_mY mJ2_indexOfChar_4cfef pJ2_indexOfChar_4cfef) pJ2_indexOfChar_4cfef (bJ2_indexOfChar_4cfef cal) := ⟨sJ2_indexOfChar_4cfef_0 hcs, trivial⟩
theorem dgJ2_indexOfCharUnsafe_4cfef_0 : decode cJ2_indexOfCharUnsafe_4cfef 0 = .ok (.iload_n 2, 1) ∧ decode cJ2_indexOfCharUnsafe_4cfef 1 = .ok (.istore 4, 2) ∧ decode cJ2_indexOfCharUnsafe_4cfef 3 = .ok (.iload 4, 2) ∧ decode cJ2_indexOfCharUnsafe_4cfef 5 = .ok (.iload_n 3, 1) ∧ decode cJ2_indexOfCharUnsafe_4cfef 6 = .ok (.if_icmp .ge 22, 3) ∧ decode cJ2_indexOfCharUnsafe_4cfef 9 = .ok (.aload_n 0, 1) ∧ decode cJ2_indexOfCharUnsafe_4cfef 10 = .ok (.iload 4, 2) ∧ decode cJ2_indexOfCharUnsafe_4cfef 12 = .ok (.invokestatic 71, 3) ∧ decode cJ2_indexOfCharUnsafe_4cfef 15 = .ok (.iload_n 1, 1) ∧ decode cJ2_indexOfCharUnsafe_4cfef 16 = .ok (.if_icmp .ne 6, 3) ∧ decode cJ2_indexOfCharUnsafe_4cfef 19 = .ok (.iload 4, 2) ∧ decode cJ2_indexOfCharUnsafe_4cfef 21 = .ok (.ireturn, 1) ∧ decode cJ2_indexOfCharUnsafe_4cfef 22 = .ok (.iinc 4 1, 3) ∧ decode cJ2_indexOfCharUnsafe_4cfef 25 = .ok (.goto (-22), 3) ∧ decode cJ2_indexOfCharUnsafe_4cfef 28 = .ok (.iconst (-1), 1) ∧ decode cJ2_indexOfCharUnsafe_4cfef 29 = .ok (.ireturn, 1) := by decide +kernel
theorem dJ2_indexOfCharUnsafe_4cfef_0 : decode cJ2_indexOfCharUnsafe_4cfef 0 = .ok (.iload_n 2, 1) := dgJ2_indexOfCharUnsafe_4cfef_0.1
theorem dJ2_indexOfCharUnsafe_4cfef_1 : decode cJ2_indexOfCharUnsafe_4cfef 1 = .ok (.istore 4, 2) := dgJ2_indexOfCharUnsafe_4cfef_0.2.1
theorem dJ2_indexOfCharUnsafe_4cfef_3 : decode cJ2_indexOfCharUnsafe_4cfef 3 = .ok (.iload 4, 2) := dgJ2_indexOfCharUnsafe_4cfef_0.2.2.1
theorem dJ2_indexOfCharUnsafe_4cfef_5 : decode cJ2_indexOfCharUnsafe_4cfef 5 = .ok (.iload_n 3, 1) := dgJ2_indexOfCharUnsafe_4cfef_0.2.2.2.1
theorem dJ2_indexOfCharUnsafe_4cfef_6 : decode cJ2_indexOfCharUnsafe_4cfef 6 = .ok (.if_icmp .ge 22, 3) := dgJ2_indexOfCharUnsafe_4cfef_0.2.2.2.2.1
theorem dJ2_indexOfCharUnsafe_4cfef_9 : decode cJ2_indexOfCharUnsafe_4cfef 9 = .ok (.aload_n 0, 1) := dgJ2_indexOfCharUnsafe_4cfef_0.2.2.2.2.2.1
theorem dJ2_indexOfCharUnsafe_4cfef_10 : decode cJ2_indexOfCharUnsafe_4cfef 10 = .ok (.iload 4, 2) := dgJ2_indexOfCharUnsafe_4cfef_0.2.2.2.2.2.2.1
theorem dJ2_indexOfCharUnsafe_4cfef_22 : decode cJ2_indexOfCharUnsafe_4cfef 22 = .ok (.iinc 4 1, 3) := dgJ2_indexOfCharUnsafe_4cfef_0.2.2.2.2.2.2.2.2.2.2.2.2.1
theorem dJ2_indexOfCharUnsafe_4cfef_25 : decode cJ2_indexOfCharUnsafe_4cfef 25 = .ok (.goto (-22), 3) := dgJ2_indexOfCharUnsafe_4cfef_0.2.2.2.2.2.2.2.2.2.2.2.2.2.1
theorem dJ2_indexOfCharUnsafe_4cfef_28 : decode cJ2_indexOfCharUnsafe_4cfef 28 = .ok (.iconst (-1), 1) := dgJ2_indexOfCharUnsafe_4cfef_0.2.2.2.2.2.2.2.2.2.2.2.2.2.2.1
theorem dJ2_indexOfCharUnsafe_4cfef_29 : decode cJ2_indexOfCharUnsafe_4cfef 29 = .ok (.ireturn, 1) := dgJ2_indexOfCharUnsafe_4cfef_0.2.2.2.2.2.2.2.2.2.2.2.2.2.2.2
abbrev pJ2_indexOfCharUnsafe_4cfef : List Nat := [0, 3, 22, 28]
def bJ2_indexOfCharUnsafe_4cfef_0 (cal : ab_F) : ab_K := o_iload 2 <| o_istore 4 <| o_goto 1
def bJ2_indexOfCharUnsafe_4cfef_1 (cal : ab_F) : ab_K := o_iload 4 <| o_iload 3 <| o_cmp (fun x y => decide (y ≤ x)) 3 <| o_aload 0 <| o_iload 4 <| (fun _ _ _ => none)
def bJ2_indexOfCharUnsafe_4cfef_2 (cal : ab_F) : ab_K := o_iinc 4 1 <| o_goto 1
def bJ2_indexOfCharUnsafe_4cfef_3 (cal : ab_F) : ab_K := o_push (.int (-1)) <| o_ret (some .int)
def bJ2_indexOfCharUnsafe_4cfef (cal : ab_F) : List ab_K := [bJ2_indexOfCharUnsafe_4cfef_0 cal, bJ2_indexOfCharUnsafe_4cfef_1 cal, bJ2_indexOfCharUnsafe_4cfef_2 cal, bJ2_indexOfCharUnsafe_4cfef_3 cal]
set_option maxRecDepth 100000 in
theorem sJ2_indexOfCharUnsafe_4cfef_0 {G : ab_G} {xs : List Int32} {d : Nat} {cal : ab_F} (hcs : ab_CS G (ab_Z G xs) ab_Mf cal d) : ab_Sd G (ab_Z G xs) (d + 1) (ab_mY mJ2_indexOfCharUnsafe_4cfef pJ2_indexOfCharUnsafe_4cfef) 0 (bJ2_indexOfCharUnsafe_4cfef_0 cal) :=
  sn_iload_n dJ2_indexOfCharUnsafe_4cfef_0 rfl <| sn_istore dJ2_indexOfCharUnsafe_4cfef_1 (by decide) <| sn_next rfl
set_option maxRecDepth 100000 in
theorem sJ2_indexOfCharUnsafe_4cfef_1 {G : ab_G} {xs : List Int32} {d : Nat} {cal : ab_F} (hcs : ab_CS G (ab_Z G xs) ab_Mf cal d) : ab_Sd G (ab_Z G xs) (d + 1) (ab_mY mJ2_indexOfCharUnsafe_4cfef pJ2_indexOfCharUnsafe_4cfef) 3 (bJ2_indexOfCharUnsafe_4cfef_1 cal) :=
  sn_iload dJ2_indexOfCharUnsafe_4cfef_3 <| sn_iload_n dJ2_indexOfCharUnsafe_4cfef_5 rfl <| sn_cmp_ge (tg := 28) dJ2_indexOfCharUnsafe_4cfef_6 rfl rfl <| sn_aload_n dJ2_indexOfCharUnsafe_4cfef_9 rfl <| sn_iload dJ2_indexOfCharUnsafe_4cfef_10 <| ab_Sd.fail
set_option maxRecDepth 100000 in
theorem sJ2_indexOfCharUnsafe_4cfef_2 {G : ab_G} {xs : List Int32} {d : Nat} {cal : ab_F} (hcs : ab_CS G (ab_Z G xs) ab_Mf cal d) : ab_Sd G (ab_Z G xs) (d + 1) (ab_mY mJ2_indexOfCharUnsafe_4cfef pJ2_indexOfCharUnsafe_4cfef) 22 (bJ2_indexOfCharUnsafe_4cfef_2 cal) :=
  sn_iinc dJ2_indexOfCharUnsafe_4cfef_22 rfl (by decide) <| sn_goto (tg := 3) dJ2_indexOfCharUnsafe_4cfef_25 rfl rfl
set_option maxRecDepth 100000 in
theorem sJ2_indexOfCharUnsafe_4cfef_3 {G : ab_G} {xs : List Int32} {d : Nat} {cal : ab_F} (hcs : ab_CS G (ab_Z G xs) ab_Mf cal d) : ab_Sd G (ab_Z G xs) (d + 1) (ab_mY mJ2_indexOfCharUnsafe_4cfef pJ2_indexOfCharUnsafe_4cfef) 28 (bJ2_indexOfCharUnsafe_4cfef_3 cal) :=
  sn_iconst dJ2_indexOfCharUnsafe_4cfef_28 rfl <| sn_ret dJ2_indexOfCharUnsafe_4cfef_29 ab_ri_int
theorem sJ2_indexOfCharUnsafe_4cfef {G : ab_G} {xs : List Int32} {d : Nat} {cal : ab_F} (hcs : ab_CS G (ab_Z G xs) ab_Mf cal d) : ab_BS G (ab_Z G xs) (d + 1) (ab_mY mJ2_indexOfCharUnsafe_4cfef pJ2_indexOfCharUnsafe_4cfef) pJ2_indexOfCharUnsafe_4cfef (bJ2_indexOfCharUnsafe_4cfef cal) := ⟨sJ2_indexOfCharUnsafe_4cfef_0 hcs, sJ2_indexOfCharUnsafe_4cfef_1 hcs, sJ2_indexOfCharUnsafe_4cfef_2 hcs, sJ2_indexOfCharUnsafe_4cfef_3 hcs, trivial⟩
theorem dgJ2_indexOfSupplementary_4cfef_0 : decode cJ2_indexOfSupplementary_4cfef 0 = .ok (.iload_n 1, 1) ∧ decode cJ2_indexOfSupplementary_4cfef 1 = .ok (.invokestatic 164, 3) ∧ decode cJ2_indexOfSupplementary_4cfef 4 = .ok (.ifCond .eq 65, 3) ∧ decode cJ2_indexOfSupplementary_4cfef 7 = .ok (.iload_n 1, 1) ∧ decode cJ2_indexOfSupplementary_4cfef 8 = .ok (.invokestatic 157, 3) ∧ decode cJ2_indexOfSupplementary_4cfef 11 = .ok (.istore 4, 2) ∧ decode cJ2_indexOfSupplementary_4cfef 13 = .ok (.iload_n 1, 1) ∧ decode cJ2_indexOfSupplementary_4cfef 14 = .ok (.invokestatic 161, 3) ∧ decode cJ2_indexOfSupplementary_4cfef 17 = .ok (.istore 5, 2) ∧ decode cJ2_indexOfSupplementary_4cfef 19 = .ok (.iload_n 2, 1) ∧ decode cJ2_indexOfSupplementary_4cfef 20 = .ok (.iload_n 3, 1) ∧ decode cJ2_indexOfSupplementary_4cfef 21 = .ok (.aload_n 0, 1) ∧ decode cJ2_indexOfSupplementary_4cfef 22 = .ok (.invokestatic 96, 3) ∧ decode cJ2_indexOfSupplementary_4cfef 25 = .ok (.iload_n 2, 1) ∧ decode cJ2_indexOfSupplementary_4cfef 26 = .ok (.istore 6, 2) ∧ decode cJ2_indexOfSupplementary_4cfef 28 = .ok (.iload 6, 2) := by decide +kernel
theorem dJ2_indexOfSupplementary_4cfef_0 : decode cJ2_indexOfSupplementary_4cfef 0 = .ok (.iload_n 1, 1) := dgJ2_indexOfSupplementary_4cfef_0.1
theorem dJ2_indexOfSupplementary_4cfef_1 : decode cJ2_indexOfSupplementary_4cfef 1 = .ok (.invokestatic 164, 3) := dgJ2_indexOfSupplementary_4cfef_0.2.1
theorem dJ2_indexOfSupplementary_4cfef_4 : decode cJ2_indexOfSupplementary_4cfef 4 = .ok (.ifCond .eq 65, 3) := dgJ2_indexOfSupplementary_4cfef_0.2.2.1
theorem dJ2_indexOfSupplementary_4cfef_7 : decode cJ2_indexOfSupplementary_4cfef 7 = .ok (.iload_n 1, 1) := dgJ2_indexOfSupplementary_4cfef_0.2.2.2.1
theorem dJ2_indexOfSupplementary_4cfef_8 : decode cJ2_indexOfSupplementary_4cfef 8 = .ok (.invokestatic 157, 3) := dgJ2_indexOfSupplementary_4cfef_0.2.2.2.2.1
theorem dJ2_indexOfSupplementary_4cfef_11 : decode cJ2_indexOfSupplementary_4cfef 11 = .ok (.istore 4, 2) := dgJ2_indexOfSupplementary_4cfef_0.2.2.2.2.2.1
theorem dJ2_indexOfSupplementary_4cfef_13 : decode cJ2_indexOfSupplementary_4cfef 13 = .ok (.iload_n 1, 1) := dgJ2_indexOfSupplementary_4cfef_0.2.2.2.2.2.2.1
theorem dJ2_indexOfSupplementary_4cfef_14 : decode cJ2_indexOfSupplementary_4cfef 14 = .ok (.invokestatic 161, 3) := dgJ2_indexOfSupplementary_4cfef_0.2.2.2.2.2.2.2.1
theorem dJ2_indexOfSupplementary_4cfef_17 : decode cJ2_indexOfSupplementary_4cfef 17 = .ok (.istore 5, 2) := dgJ2_indexOfSupplementary_4cfef_0.2.2.2.2.2.2.2.2.1
theorem dJ2_indexOfSupplementary_4cfef_19 : decode cJ2_indexOfSupplementary_4cfef 19 = .ok (.iload_n 2, 1) := dgJ2_indexOfSupplementary_4cfef_0.2.2.2.2.2.2.2.2.2.1
theorem dJ2_indexOfSupplementary_4cfef_20 : decode cJ2_indexOfSupplementary_4cfef 20 = .ok (.iload_n 3, 1) := dgJ2_indexOfSupplementary_4cfef_0.2.2.2.2.2.2.2.2.2.2.1
theorem dJ2_indexOfSupplementary_4cfef_21 : decode cJ2_indexOfSupplementary_4cfef 21 = .ok (.aload_n 0, 1) := dgJ2_indexOfSupplementary_4cfef_0.2.2.2.2.2.2.2.2.2.2.2.1
theorem dJ2_indexOfSupplementary_4cfef_28 : decode cJ2_indexOfSupplementary_4cfef 28 = .ok (.iload 6, 2) := dgJ2_indexOfSupplementary_4cfef_0.2.2.2.2.2.2.2.2.2.2.2.2.2.2.2
theorem dgJ2_indexOfSupplementary_4cfef_1 : decode cJ2_indexOfSupplementary_4cfef 30 = .ok (.iload_n 3, 1) ∧ decode cJ2_indexOfSupplementary_4cfef 31 = .ok (.iconst 1, 1) ∧ decode cJ2_indexOfSupplementary_4cfef 32 = .ok (.isub, 1) ∧ decode cJ2_indexOfSupplementary_4cfef 33 = .ok (.if_icmp .ge 36, 3) ∧ decode cJ2_indexOfSupplementary_4cfef 36 = .ok (.aload_n 0, 1) ∧ decode cJ2_indexOfSupplementary_4cfef 37 = .ok (.iload 6, 2) ∧ decode cJ2_indexOfSupplementary_4cfef 39 = .ok (.invokestatic 71, 3) ∧ decode cJ2_indexOfSupplementary_4cfef 42 = .ok (.iload 4, 2) ∧ decode cJ2_indexOfSupplementary_4cfef 44 = .ok (.if_icmp .ne 19, 3) ∧ decode cJ2_indexOfSupplementary_4cfef 47 = .ok (.aload_n 0, 1) ∧ decode cJ2_indexOfSupplementary_4cfef 48 = .ok (.iload 6, 2) ∧ decode cJ2_indexOfSupplementary_4cfef 50 = .ok (.iconst 1, 1) ∧ decode cJ2_indexOfSupplementary_4cfef 51 = .ok (.iadd, 1) ∧ decode cJ2_indexOfSupplementary_4cfef 52 = .ok (.invokestatic 71, 3) ∧ decode cJ2_indexOfSupplementary_4cfef 55 = .ok (.iload 5, 2) ∧ decode cJ2_indexOfSupplementary_4cfef 57 = .ok (.if_icmp .ne 6, 3) := by decide +kernel
theorem dJ2_indexOfSupplementary_4cfef_30 : decode cJ2_indexOfSupplementary_4cfef 30 = .ok (.iload_n 3, 1) := dgJ2_indexOfSupplementary_4cfef_1.1
theorem dJ2_indexOfSupplementary_4cfef_31 : decode cJ2_indexOfSupplementary_4cfef 31 = .ok (.iconst 1, 1) := dgJ2_indexOfSupplementary_4cfef_1.2.1
theorem dJ2_indexOfSupplementary_4cfef_32 : decode cJ2_indexOfSupplementary_4cfef 32 = .ok (.isub, 1) := dgJ2_indexOfSupplementary_4cfef_1.2.2.1
theorem dJ2_indexOfSupplementary_4cfef_33 : decode cJ2_indexOfSupplementary_4cfef 33 = .ok (.if_icmp .ge 36, 3) := dgJ2_indexOfSupplementary_4cfef_1.2.2.2.1
theorem dJ2_indexOfSupplementary_4cfef_36 : decode cJ2_indexOfSupplementary_4cfef 36 = .ok (.aload_n 0, 1) := dgJ2_indexOfSupplementary_4cfef_1.2.2.2.2.1
theorem dJ2_indexOfSupplementary_4cfef_37 : decode cJ2_indexOfSupplementary_4cfef 37 = .ok (.iload 6, 2) := dgJ2_indexOfSupplementary_4cfef_1.2.2.2.2.2.1
theorem dgJ2_indexOfSupplementary_4cfef_2 : decode cJ2_indexOfSupplementary_4cfef 60 = .ok (.iload 6, 2) ∧ decode cJ2_indexOfSupplementary_4cfef 62 = .ok (.ireturn, 1) ∧ decode cJ2_indexOfSupplementary_4cfef 63 = .ok (.iinc 6 1, 3) ∧ decode cJ2_indexOfSupplementary_4cfef 66 = .ok (.goto (-38), 3) ∧ decode cJ2_indexOfSupplementary_4cfef 69 = .ok (.iconst (-1), 1) ∧ decode cJ2_indexOfSupplementary_4cfef 70 = .ok (.ireturn, 1) := by decide +kernel
theorem dJ2_indexOfSupplementary_4cfef_63 : decode cJ2_indexOfSupplementary_4cfef 63 = .ok (.iinc 6 1, 3) := dgJ2_indexOfSupplementary_4cfef_2.2.2.1
theorem dJ2_indexOfSupplementary_4cfef_66 : decode cJ2_indexOfSupplementary_4cfef 66 = .ok (.goto (-38), 3) := dgJ2_indexOfSupplementary_4cfef_2.2.2.2.1
theorem dJ2_indexOfSupplementary_4cfef_69 : decode cJ2_indexOfSupplementary_4cfef 69 = .ok (.iconst (-1), 1) := dgJ2_indexOfSupplementary_4cfef_2.2.2.2.2.1
theorem dJ2_indexOfSupplementary_4cfef_70 : decode cJ2_indexOfSupplementary_4cfef 70 = .ok (.ireturn, 1) := dgJ2_indexOfSupplementary_4cfef_2.2.2.2.2.2
abbrev pJ2_indexOfSupplementary_4cfef : List Nat := [0, 28, 63, 69]
def bJ2_indexOfSupplementary_4cfef_0 (cal : ab_F) : ab_K := o_iload 1 <| o_callS cal 222 1 <| o_if (fun x => decide (x = 0)) 3 <| o_iload 1 <| o_callS cal 223 1 <| o_istore 4 <| o_iload 1 <| o_callS cal 224 1 <| o_istore 5 <| o_iload 2 <| o_iload 3 <| o_aload 0 <| (fun _ _ _ => none)
def bJ2_indexOfSupplementary_4cfef_1 (cal : ab_F) : ab_K := o_iload 6 <| o_iload 3 <| o_push (.int 1) <| o_bin (fun x y => x - y) <| o_cmp (fun x y => decide (y ≤ x)) 3 <| o_aload 0 <| o_iload 6 <| (fun _ _ _ => none)
def bJ2_indexOfSupplementary_4cfef_2 (cal : ab_F) : ab_K := o_iinc 6 1 <| o_goto 1
def bJ2_indexOfSupplementary_4cfef_3 (cal : ab_F) : ab_K := o_push (.int (-1)) <| o_ret (some .int)
def bJ2_indexOfSupplementary_4cfef (cal : ab_F) : List ab_K := [bJ2_indexOfSupplementary_4cfef_0 cal, bJ2_indexOfSupplementary_4cfef_1 cal, bJ2_indexOfSupplementary_4cfef_2 cal, bJ2_indexOfSupplementary_4cfef_3 cal]
set_option maxRecDepth 100000 in
theorem sJ2_indexOfSupplementary_4cfef_0 {G : ab_G} {xs : List Int32} {d : Nat} {cal : ab_F} (hcs : ab_CS G (ab_Z G xs) ab_Mf cal d) : ab_Sd G (ab_Z G xs) (d + 1) (ab_mY mJ2_indexOfSupplementary_4cfef pJ2_indexOfSupplementary_4cfef) 0 (bJ2_indexOfSupplementary_4cfef_0 cal) :=
  sn_iload_n dJ2_indexOfSupplementary_4cfef_0 rfl <| sq_callS mt_222 hcs dJ2_indexOfSupplementary_4cfef_1 w_823 w_824 w_73 w_825 hy_222 hm_222 <| sn_if_eq (tg := 69) dJ2_indexOfSupplementary_4cfef_4 rfl rfl <| sn_iload_n dJ2_indexOfSupplementary_4cfef_7 rfl <| sq_callS mt_223 hcs dJ2_indexOfSupplementary_4cfef_8 w_826 w_827 w_73 w_828 hy_223 hm_223 <| sn_istore dJ2_indexOfSupplementary_4cfef_11 (by decide) <| sn_iload_n dJ2_indexOfSupplementary_4cfef_13 rfl <| sq_callS mt_224 hcs dJ2_indexOfSupplementary_4cfef_14 w_830 w_831 w_73 w_832 hy_224 hm_224 <| sn_istore dJ2_indexOfSupplementary_4cfef_17 (by decide) <| sn_iload_n dJ2_indexOfSupplementary_4cfef_19 rfl <| sn_iload_n dJ2_indexOfSupplementary_4cfef_20 rfl <| sn_aload_n dJ2_indexOfSupplementary_4cfef_21 rfl <| ab_Sd.fail
set_option maxRecDepth 100000 in
theorem sJ2_indexOfSupplementary_4cfef_1 {G : ab_G} {xs : List Int32} {d : Nat} {cal : ab_F} (hcs : ab_CS G (ab_Z G xs) ab_Mf cal d) : ab_Sd G (ab_Z G xs) (d + 1) (ab_mY mJ2_indexOfSupplementary_4cfef pJ2_indexOfSupplementary_4cfef) 28 (bJ2_indexOfSupplementary_4cfef_1 cal) :=
  sn_iload dJ2_indexOfSupplementary_4cfef_28 <| sn_iload_n dJ2_indexOfSupplementary_4cfef_30 rfl <| sn_iconst dJ2_indexOfSupplementary_4cfef_31 rfl <| sn_isub dJ2_indexOfSupplementary_4cfef_32 <| sn_cmp_ge (tg := 69) dJ2_indexOfSupplementary_4cfef_33 rfl rfl <| sn_aload_n dJ2_indexOfSupplementary_4cfef_36 rfl <| sn_iload dJ2_indexOfSupplementary_4cfef_37 <| ab_Sd.fail
set_option maxRecDepth 100000 in
theorem sJ2_indexOfSupplementary_4cfef_2 {G : ab_G} {xs : List Int32} {d : Nat} {cal : ab_F} (hcs : ab_CS G (ab_Z G xs) ab_Mf cal d) : ab_Sd G (ab_Z G xs) (d + 1) (ab_mY mJ2_indexOfSupplementary_4cfef pJ2_indexOfSupplementary_4cfef) 63 (bJ2_indexOfSupplementary_4cfef_2 cal) :=
  sn_iinc dJ2_indexOfSupplementary_4cfef_63 rfl (by decide) <| sn_goto (tg := 28) dJ2_indexOfSupplementary_4cfef_66 rfl rfl
set_option maxRecDepth 100000 in
theorem sJ2_indexOfSupplementary_4cfef_3 {G : ab_G} {xs : List Int32} {d : Nat} {cal : ab_F} (hcs : ab_CS G (ab_Z G xs) ab_Mf cal d) : ab_Sd G (ab_Z G xs) (d + 1) (ab_mY mJ2_indexOfSupplementary_4cfef pJ2_indexOfSupplementary_4cfef) 69 (bJ2_indexOfSupplementary_4cfef_3 cal) :=
  sn_iconst dJ2_indexOfSupplementary_4cfef_69 rfl <| sn_ret dJ2_indexOfSupplementary_4cfef_70 ab_ri_int
theorem sJ2_indexOfSupplementary_4cfef {G : ab_G} {xs : List Int32} {d : Nat} {cal : ab_F} (hcs : ab_CS G (ab_Z G xs) ab_Mf cal d) : ab_BS G (ab_Z G xs) (d + 1) (ab_mY mJ2_indexOfSupplementary_4cfef pJ2_indexOfSupplementary_4cfef) pJ2_indexOfSupplementary_4cfef (bJ2_indexOfSupplementary_4cfef cal) := ⟨sJ2_indexOfSupplementary_4cfef_0 hcs, sJ2_indexOfSupplementary_4cfef_1 hcs, sJ2_indexOfSupplementary_4cfef_2 hcs, sJ2_indexOfSupplementary_4cfef_3 hcs, trivial⟩
theorem dgJ2_charAt_3b067_0 : decode cJ2_charAt_3b067 0 = .ok (.iload_n 1, 1) ∧ decode cJ2_charAt_3b067 1 = .ok (.aload_n 0, 1) ∧ decode cJ2_charAt_3b067 2 = .ok (.invokestatic 67, 3) ∧ decode cJ2_charAt_3b067 5 = .ok (.aload_n 0, 1) ∧ decode cJ2_charAt_3b067 6 = .ok (.iload_n 1, 1) ∧ decode cJ2_charAt_3b067 7 = .ok (.invokestatic 71, 3) ∧ decode cJ2_charAt_3b067 10 = .ok (.ireturn, 1) := by decide +kernel
theorem dJ2_charAt_3b067_0 : decode cJ2_charAt_3b067 0 = .ok (.iload_n 1, 1) := dgJ2_charAt_3b067_0.1
theorem dJ2_charAt_3b067_1 : decode cJ2_charAt_3b067 1 = .ok (.aload_n 0, 1) := dgJ2_charAt_3b067_0.2.1
abbrev pJ2_charAt_3b067 : List Nat := [0]
def bJ2_charAt_3b067_0 (cal : ab_F) : ab_K := o_iload 1 <| o_aload 0 <| (fun _ _ _ => none)
def bJ2_charAt_3b067 (cal : ab_F) : List ab_K := [bJ2_charAt_3b067_0 cal]
set_option maxRecDepth 100000 in
theorem sJ2_charAt_3b067_0 {G : ab_G} {xs : List Int32} {d : Nat} {cal : ab_F} (hcs : ab_CS G (ab_Z G xs) ab_Mf cal d) : ab_Sd G (ab_Z G xs) (d + 1) (ab_mY mJ2_charAt_3b067 pJ2_charAt_3b067) 0 (bJ2_charAt_3b067_0 cal) :=
  sn_iload_n dJ2_charAt_3b067_0 rfl <| sn_aload_n dJ2_charAt_3b067_1 rfl <| ab_Sd.fail
theorem sJ2_charAt_3b067 {G : ab_G} {xs : List Int32} {d : Nat} {cal : ab_F} (hcs : ab_CS G (ab_Z G xs) ab_Mf cal d) : ab_BS G (ab_Z G xs) (d + 1) (ab_mY mJ2_charAt_3b067 pJ2_charAt_3b067) pJ2_charAt_3b067 (bJ2_charAt_3b067 cal) := ⟨sJ2_charAt_3b067_0 hcs, trivial⟩
theorem dgJ2_checkIndex_2214a_0 : decode cJ2_checkIndex_2214a 0 = .ok (.iload_n 0, 1) ∧ decode cJ2_checkIndex_2214a 1 = .ok (.aload_n 1, 1) ∧ decode cJ2_checkIndex_2214a 2 = .ok (.invokestatic 48, 3) ∧ decode cJ2_checkIndex_2214a 5 = .ok (.invokestatic 414, 3) ∧ decode cJ2_checkIndex_2214a 8 = .ok (.return_, 1) := by decide +kernel
theorem dJ2_checkIndex_2214a_0 : decode cJ2_checkIndex_2214a 0 = .ok (.iload_n 0, 1) := dgJ2_checkIndex_2214a_0.1
theorem dJ2_checkIndex_2214a_1 : decode cJ2_checkIndex_2214a 1 = .ok (.aload_n 1, 1) := dgJ2_checkIndex_2214a_0.2.1
abbrev pJ2_checkIndex_2214a : List Nat := [0]
def bJ2_checkIndex_2214a_0 (cal : ab_F) : ab_K := o_iload 0 <| o_aload 1 <| (fun _ _ _ => none)
def bJ2_checkIndex_2214a (cal : ab_F) : List ab_K := [bJ2_checkIndex_2214a_0 cal]
set_option maxRecDepth 100000 in
theorem sJ2_checkIndex_2214a_0 {G : ab_G} {xs : List Int32} {d : Nat} {cal : ab_F} (hcs : ab_CS G (ab_Z G xs) ab_Mf cal d) : ab_Sd G (ab_Z G xs) (d + 1) (ab_mY mJ2_checkIndex_2214a pJ2_checkIndex_2214a) 0 (bJ2_checkIndex_2214a_0 cal) :=
  sn_iload_n dJ2_checkIndex_2214a_0 rfl <| sn_aload_n dJ2_checkIndex_2214a_1 rfl <| ab_Sd.fail
theorem sJ2_checkIndex_2214a {G : ab_G} {xs : List Int32} {d : Nat} {cal : ab_F} (hcs : ab_CS G (ab_Z G xs) ab_Mf cal d) : ab_BS G (ab_Z G xs) (d + 1) (ab_mY mJ2_checkIndex_2214a pJ2_checkIndex_2214a) pJ2_checkIndex_2214a (bJ2_checkIndex_2214a cal) := ⟨sJ2_checkIndex_2214a_0 hcs, trivial⟩
theorem dgJ2_checkBoundsBeginEnd_d044e_0 : decode cJ2_checkBoundsBeginEnd_d044e 0 = .ok (.iload_n 0, 1) ∧ decode cJ2_checkBoundsBeginEnd_d044e 1 = .ok (.iload_n 1, 1) ∧ decode cJ2_checkBoundsBeginEnd_d044e 2 = .ok (.aload_n 2, 1) ∧ decode cJ2_checkBoundsBeginEnd_d044e 3 = .ok (.invokestatic 48, 3) ∧ decode cJ2_checkBoundsBeginEnd_d044e 6 = .ok (.invokestatic 241, 3) ∧ decode cJ2_checkBoundsBeginEnd_d044e 9 = .ok (.return_, 1) := by decide +kernel
theorem dJ2_checkBoundsBeginEnd_d044e_0 : decode cJ2_checkBoundsBeginEnd_d044e 0 = .ok (.iload_n 0, 1) := dgJ2_checkBoundsBeginEnd_d044e_0.1
theorem dJ2_checkBoundsBeginEnd_d044e_1 : decode cJ2_checkBoundsBeginEnd_d044e 1 = .ok (.iload_n 1, 1) := dgJ2_checkBoundsBeginEnd_d044e_0.2.1
theorem dJ2_checkBoundsBeginEnd_d044e_2 : decode cJ2_checkBoundsBeginEnd_d044e 2 = .ok (.aload_n 2, 1) := dgJ2_checkBoundsBeginEnd_d044e_0.2.2.1
abbrev pJ2_checkBoundsBeginEnd_d044e : List Nat := [0]
def bJ2_checkBoundsBeginEnd_d044e_0 (cal : ab_F) : ab_K := o_iload 0 <| o_iload 1 <| o_aload 2 <| (fun _ _ _ => none)
def bJ2_checkBoundsBeginEnd_d044e (cal : ab_F) : List ab_K := [bJ2_checkBoundsBeginEnd_d044e_0 cal]
set_option maxRecDepth 100000 in
theorem sJ2_checkBoundsBeginEnd_d044e_0 {G : ab_G} {xs : List Int32} {d : Nat} {cal : ab_F} (hcs : ab_CS G (ab_Z G xs) ab_Mf cal d) : ab_Sd G (ab_Z G xs) (d + 1) (ab_mY mJ2_checkBoundsBeginEnd_d044e pJ2_checkBoundsBeginEnd_d044e) 0 (bJ2_checkBoundsBeginEnd_d044e_0 cal) :=
  sn_iload_n dJ2_checkBoundsBeginEnd_d044e_0 rfl <| sn_iload_n dJ2_checkBoundsBeginEnd_d044e_1 rfl <| sn_aload_n dJ2_checkBoundsBeginEnd_d044e_2 rfl <| ab_Sd.fail
theorem sJ2_checkBoundsBeginEnd_d044e {G : ab_G} {xs : List Int32} {d : Nat} {cal : ab_F} (hcs : ab_CS G (ab_Z G xs) ab_Mf cal d) : ab_BS G (ab_Z G xs) (d + 1) (ab_mY mJ2_checkBoundsBeginEnd_d044e pJ2_checkBoundsBeginEnd_d044e) pJ2_checkBoundsBeginEnd_d044e (bJ2_checkBoundsBeginEnd_d044e cal) := ⟨sJ2_checkBoundsBeginEnd_d044e_0 hcs, trivial⟩
theorem dgJ7_fill_53178_0 : decode cJ7_fill_53178 0 = .ok (.iconst 0, 1) ∧ decode cJ7_fill_53178 1 = .ok (.istore_n 2, 1) ∧ decode cJ7_fill_53178 2 = .ok (.aload_n 0, 1) ∧ decode cJ7_fill_53178 3 = .ok (.arraylength, 1) ∧ decode cJ7_fill_53178 4 = .ok (.istore_n 3, 1) ∧ decode cJ7_fill_53178 5 = .ok (.iload_n 2, 1) ∧ decode cJ7_fill_53178 6 = .ok (.iload_n 3, 1) ∧ decode cJ7_fill_53178 7 = .ok (.if_icmp .ge 13, 3) ∧ decode cJ7_fill_53178 10 = .ok (.aload_n 0, 1) ∧ decode cJ7_fill_53178 11 = .ok (.iload_n 2, 1) ∧ decode cJ7_fill_53178 12 = .ok (.iload_n 1, 1) ∧ decode cJ7_fill_53178 13 = .ok (.iastore, 1) ∧ decode cJ7_fill_53178 14 = .ok (.iinc 2 1, 3) ∧ decode cJ7_fill_53178 17 = .ok (.goto (-12), 3) ∧ decode cJ7_fill_53178 20 = .ok (.return_, 1) := by decide +kernel
theorem dJ7_fill_53178_0 : decode cJ7_fill_53178 0 = .ok (.iconst 0, 1) := dgJ7_fill_53178_0.1
theorem dJ7_fill_53178_1 : decode cJ7_fill_53178 1 = .ok (.istore_n 2, 1) := dgJ7_fill_53178_0.2.1
theorem dJ7_fill_53178_2 : decode cJ7_fill_53178 2 = .ok (.aload_n 0, 1) := dgJ7_fill_53178_0.2.2.1
theorem dJ7_fill_53178_3 : decode cJ7_fill_53178 3 = .ok (.arraylength, 1) := dgJ7_fill_53178_0.2.2.2.1
theorem dJ7_fill_53178_4 : decode cJ7_fill_53178 4 = .ok (.istore_n 3, 1) := dgJ7_fill_53178_0.2.2.2.2.1
theorem dJ7_fill_53178_5 : decode cJ7_fill_53178 5 = .ok (.iload_n 2, 1) := dgJ7_fill_53178_0.2.2.2.2.2.1
theorem dJ7_fill_53178_6 : decode cJ7_fill_53178 6 = .ok (.iload_n 3, 1) := dgJ7_fill_53178_0.2.2.2.2.2.2.1
theorem dJ7_fill_53178_7 : decode cJ7_fill_53178 7 = .ok (.if_icmp .ge 13, 3) := dgJ7_fill_53178_0.2.2.2.2.2.2.2.1
theorem dJ7_fill_53178_10 : decode cJ7_fill_53178 10 = .ok (.aload_n 0, 1) := dgJ7_fill_53178_0.2.2.2.2.2.2.2.2.1
theorem dJ7_fill_53178_11 : decode cJ7_fill_53178 11 = .ok (.iload_n 2, 1) := dgJ7_fill_53178_0.2.2.2.2.2.2.2.2.2.1
theorem dJ7_fill_53178_12 : decode cJ7_fill_53178 12 = .ok (.iload_n 1, 1) := dgJ7_fill_53178_0.2.2.2.2.2.2.2.2.2.2.1
theorem dJ7_fill_53178_13 : decode cJ7_fill_53178 13 = .ok (.iastore, 1) := dgJ7_fill_53178_0.2.2.2.2.2.2.2.2.2.2.2.1
theorem dJ7_fill_53178_14 : decode cJ7_fill_53178 14 = .ok (.iinc 2 1, 3) := dgJ7_fill_53178_0.2.2.2.2.2.2.2.2.2.2.2.2.1
theorem dJ7_fill_53178_17 : decode cJ7_fill_53178 17 = .ok (.goto (-12), 3) := dgJ7_fill_53178_0.2.2.2.2.2.2.2.2.2.2.2.2.2.1
theorem dJ7_fill_53178_20 : decode cJ7_fill_53178 20 = .ok (.return_, 1) := dgJ7_fill_53178_0.2.2.2.2.2.2.2.2.2.2.2.2.2.2
abbrev pJ7_fill_53178 : List Nat := [0, 5, 20]
def bJ7_fill_53178_0 (cal : ab_F) : ab_K := o_push (.int 0) <| o_istore 2 <| o_aload 0 <| o_alenI 0 <| o_istore 3 <| o_goto 1
def bJ7_fill_53178_1 (cal : ab_F) : ab_K := o_iload 2 <| o_iload 3 <| o_cmp (fun x y => decide (y ≤ x)) 2 <| o_aload 0 <| o_iload 2 <| o_iload 1 <| o_iast 0 (fun x => x) <| o_iinc 2 1 <| o_goto 1
def bJ7_fill_53178_2 (cal : ab_F) : ab_K := o_ret none
def bJ7_fill_53178 (cal : ab_F) : List ab_K := [bJ7_fill_53178_0 cal, bJ7_fill_53178_1 cal, bJ7_fill_53178_2 cal]
set_option maxRecDepth 100000 in
theorem sJ7_fill_53178_0 {G : ab_G} {xs : List Int32} {d : Nat} {cal : ab_F} (hcs : ab_CS G (ab_Z G xs) ab_Mf cal d) : ab_Sd G (ab_Z G xs) (d + 1) (ab_mY mJ7_fill_53178 pJ7_fill_53178) 0 (bJ7_fill_53178_0 cal) :=
  sn_iconst dJ7_fill_53178_0 rfl <| sn_istore_n dJ7_fill_53178_1 rfl (by decide) <| sn_aload_n dJ7_fill_53178_2 rfl <| sn_alenI dJ7_fill_53178_3 rfl <| sn_istore_n dJ7_fill_53178_4 rfl (by decide) <| sn_next rfl
set_option maxRecDepth 100000 in
theorem sJ7_fill_53178_1 {G : ab_G} {xs : List Int32} {d : Nat} {cal : ab_F} (hcs : ab_CS G (ab_Z G xs) ab_Mf cal d) : ab_Sd G (ab_Z G xs) (d + 1) (ab_mY mJ7_fill_53178 pJ7_fill_53178) 5 (bJ7_fill_53178_1 cal) :=
  sn_iload_n dJ7_fill_53178_5 rfl <| sn_iload_n dJ7_fill_53178_6 rfl <| sn_cmp_ge (tg := 20) dJ7_fill_53178_7 rfl rfl <| sn_aload_n dJ7_fill_53178_10 rfl <| sn_iload_n dJ7_fill_53178_11 rfl <| sn_iload_n dJ7_fill_53178_12 rfl <| sn_iast dJ7_fill_53178_13 rfl rfl <| sn_iinc dJ7_fill_53178_14 rfl (by decide) <| sn_goto (tg := 5) dJ7_fill_53178_17 rfl rfl
set_option maxRecDepth 100000 in
theorem sJ7_fill_53178_2 {G : ab_G} {xs : List Int32} {d : Nat} {cal : ab_F} (hcs : ab_CS G (ab_Z G xs) ab_Mf cal d) : ab_Sd G (ab_Z G xs) (d + 1) (ab_mY mJ7_fill_53178 pJ7_fill_53178) 20 (bJ7_fill_53178_2 cal) :=
  sn_ret dJ7_fill_53178_20 ab_ri_void
theorem sJ7_fill_53178 {G : ab_G} {xs : List Int32} {d : Nat} {cal : ab_F} (hcs : ab_CS G (ab_Z G xs) ab_Mf cal d) : ab_BS G (ab_Z G xs) (d + 1) (ab_mY mJ7_fill_53178 pJ7_fill_53178) pJ7_fill_53178 (bJ7_fill_53178 cal) := ⟨sJ7_fill_53178_0 hcs, sJ7_fill_53178_1 hcs, sJ7_fill_53178_2 hcs, trivial⟩
theorem dgJ7_copyOf_59c91_0 : decode cJ7_copyOf_59c91 0 = .ok (.iload_n 1, 1) ∧ decode cJ7_copyOf_59c91 1 = .ok (.aload_n 0, 1) ∧ decode cJ7_copyOf_59c91 2 = .ok (.arraylength, 1) ∧ decode cJ7_copyOf_59c91 3 = .ok (.if_icmp .ne 11, 3) ∧ decode cJ7_copyOf_59c91 6 = .ok (.aload_n 0, 1) ∧ decode cJ7_copyOf_59c91 7 = .ok (.invokevirtual 316, 3) ∧ decode cJ7_copyOf_59c91 10 = .ok (.checkcast 317, 3) ∧ decode cJ7_copyOf_59c91 13 = .ok (.areturn, 1) ∧ decode cJ7_copyOf_59c91 14 = .ok (.iload_n 1, 1) ∧ decode cJ7_copyOf_59c91 15 = .ok (.newarray .int, 2) ∧ decode cJ7_copyOf_59c91 17 = .ok (.astore_n 2, 1) ∧ decode cJ7_copyOf_59c91 18 = .ok (.aload_n 0, 1) ∧ decode cJ7_copyOf_59c91 19 = .ok (.iconst 0, 1) ∧ decode cJ7_copyOf_59c91 20 = .ok (.aload_n 2, 1) ∧ decode cJ7_copyOf_59c91 21 = .ok (.iconst 0, 1) ∧ decode cJ7_copyOf_59c91 22 = .ok (.aload_n 0, 1) := by decide +kernel
theorem dJ7_copyOf_59c91_0 : decode cJ7_copyOf_59c91 0 = .ok (.iload_n 1, 1) := dgJ7_copyOf_59c91_0.1
theorem dJ7_copyOf_59c91_1 : decode cJ7_copyOf_59c91 1 = .ok (.aload_n 0, 1) := dgJ7_copyOf_59c91_0.2.1
theorem dJ7_copyOf_59c91_2 : decode cJ7_copyOf_59c91 2 = .ok (.arraylength, 1) := dgJ7_copyOf_59c91_0.2.2.1
theorem dJ7_copyOf_59c91_3 : decode cJ7_copyOf_59c91 3 = .ok (.if_icmp .ne 11, 3) := dgJ7_copyOf_59c91_0.2.2.2.1
theorem dJ7_copyOf_59c91_6 : decode cJ7_copyOf_59c91 6 = .ok (.aload_n 0, 1) := dgJ7_copyOf_59c91_0.2.2.2.2.1
theorem dJ7_copyOf_59c91_14 : decode cJ7_copyOf_59c91 14 = .ok (.iload_n 1, 1) := dgJ7_copyOf_59c91_0.2.2.2.2.2.2.2.2.1
theorem dJ7_copyOf_59c91_15 : decode cJ7_copyOf_59c91 15 = .ok (.newarray .int, 2) := dgJ7_copyOf_59c91_0.2.2.2.2.2.2.2.2.2.1
theorem dJ7_copyOf_59c91_17 : decode cJ7_copyOf_59c91 17 = .ok (.astore_n 2, 1) := dgJ7_copyOf_59c91_0.2.2.2.2.2.2.2.2.2.2.1
theorem dJ7_copyOf_59c91_18 : decode cJ7_copyOf_59c91 18 = .ok (.aload_n 0, 1) := dgJ7_copyOf_59c91_0.2.2.2.2.2.2.2.2.2.2.2.1
theorem dJ7_copyOf_59c91_19 : decode cJ7_copyOf_59c91 19 = .ok (.iconst 0, 1) := dgJ7_copyOf_59c91_0.2.2.2.2.2.2.2.2.2.2.2.2.1
theorem dJ7_copyOf_59c91_20 : decode cJ7_copyOf_59c91 20 = .ok (.aload_n 2, 1) := dgJ7_copyOf_59c91_0.2.2.2.2.2.2.2.2.2.2.2.2.2.1
theorem dJ7_copyOf_59c91_21 : decode cJ7_copyOf_59c91 21 = .ok (.iconst 0, 1) := dgJ7_copyOf_59c91_0.2.2.2.2.2.2.2.2.2.2.2.2.2.2.1
theorem dJ7_copyOf_59c91_22 : decode cJ7_copyOf_59c91 22 = .ok (.aload_n 0, 1) := dgJ7_copyOf_59c91_0.2.2.2.2.2.2.2.2.2.2.2.2.2.2.2
theorem dgJ7_copyOf_59c91_1 : decode cJ7_copyOf_59c91 23 = .ok (.arraylength, 1) ∧ decode cJ7_copyOf_59c91 24 = .ok (.iload_n 1, 1) ∧ decode cJ7_copyOf_59c91 25 = .ok (.invokestatic 304, 3) ∧ decode cJ7_copyOf_59c91 28 = .ok (.invokestatic 150, 3) ∧ decode cJ7_copyOf_59c91 31 = .ok (.aload_n 2, 1) ∧ decode cJ7_copyOf_59c91 32 = .ok (.areturn, 1) := by decide +kernel
theorem dJ7_copyOf_59c91_23 : decode cJ7_copyOf_59c91 23 = .ok (.arraylength, 1) := dgJ7_copyOf_59c91_1.1
theorem dJ7_copyOf_59c91_24 : decode cJ7_copyOf_59c91 24 = .ok (.iload_n 1, 1) := dgJ7_copyOf_59c91_1.2.1
theorem dJ7_copyOf_59c91_25 : decode cJ7_copyOf_59c91 25 = .ok (.invokestatic 304, 3) := dgJ7_copyOf_59c91_1.2.2.1
theorem dJ7_copyOf_59c91_28 : decode cJ7_copyOf_59c91 28 = .ok (.invokestatic 150, 3) := dgJ7_copyOf_59c91_1.2.2.2.1
theorem dJ7_copyOf_59c91_31 : decode cJ7_copyOf_59c91 31 = .ok (.aload_n 2, 1) := dgJ7_copyOf_59c91_1.2.2.2.2.1
theorem dJ7_copyOf_59c91_32 : decode cJ7_copyOf_59c91 32 = .ok (.areturn, 1) := dgJ7_copyOf_59c91_1.2.2.2.2.2
abbrev pJ7_copyOf_59c91 : List Nat := [0, 14]
def bJ7_copyOf_59c91_0 (cal : ab_F) : ab_K := o_iload 1 <| o_aload 0 <| o_alenI 0 <| o_cmp (fun x y => decide (¬ x = y)) 1 <| o_aload 0 <| (fun _ _ _ => none)
def bJ7_copyOf_59c91_1 (cal : ab_F) : ab_K := o_iload 1 <| o_newi 0 <| o_astore 2 <| o_aload 0 <| o_push (.int 0) <| o_aload 2 <| o_push (.int 0) <| o_aload 0 <| o_alenI 0 <| o_iload 1 <| o_m2 (fun x y => if y < x then y else x) <| o_acopy <| o_aload 2 <| o_ret (some (.array .int))
def bJ7_copyOf_59c91 (cal : ab_F) : List ab_K := [bJ7_copyOf_59c91_0 cal, bJ7_copyOf_59c91_1 cal]
set_option maxRecDepth 100000 in
theorem sJ7_copyOf_59c91_0 {G : ab_G} {xs : List Int32} {d : Nat} {cal : ab_F} (hcs : ab_CS G (ab_Z G xs) ab_Mf cal d) : ab_Sd G (ab_Z G xs) (d + 1) (ab_mY mJ7_copyOf_59c91 pJ7_copyOf_59c91) 0 (bJ7_copyOf_59c91_0 cal) :=
  sn_iload_n dJ7_copyOf_59c91_0 rfl <| sn_aload_n dJ7_copyOf_59c91_1 rfl <| sn_alenI dJ7_copyOf_59c91_2 rfl <| sn_cmp_ne (tg := 14) dJ7_copyOf_59c91_3 rfl rfl <| sn_aload_n dJ7_copyOf_59c91_6 rfl <| ab_Sd.fail
set_option maxRecDepth 100000 in
theorem sJ7_copyOf_59c91_1 {G : ab_G} {xs : List Int32} {d : Nat} {cal : ab_F} (hcs : ab_CS G (ab_Z G xs) ab_Mf cal d) : ab_Sd G (ab_Z G xs) (d + 1) (ab_mY mJ7_copyOf_59c91 pJ7_copyOf_59c91) 14 (bJ7_copyOf_59c91_1 cal) :=
  sn_iload_n dJ7_copyOf_59c91_14 rfl <| sn_newi dJ7_copyOf_59c91_15 rfl w_154 rfl (fun _ _ h => h) rfl (by decide) <| sn_astore_n dJ7_copyOf_59c91_17 rfl (by decide) <| sn_aload_n dJ7_copyOf_59c91_18 rfl <| sn_iconst dJ7_copyOf_59c91_19 rfl <| sn_aload_n dJ7_copyOf_59c91_20 rfl <| sn_iconst dJ7_copyOf_59c91_21 rfl <| sn_aload_n dJ7_copyOf_59c91_22 rfl <| sn_alenI dJ7_copyOf_59c91_23 rfl <| sn_iload_n dJ7_copyOf_59c91_24 rfl <| sn_mmin (Nat.le_add_left 1 _) rfl dJ7_copyOf_59c91_25 w_849 w_372 w_66 w_373 <| sn_acopy (Nat.le_add_left 1 _) dJ7_copyOf_59c91_28 w_850 w_595 w_594 w_68 <| sn_aload_n dJ7_copyOf_59c91_31 rfl <| sn_ret dJ7_copyOf_59c91_32 ab_ri_arr
theorem sJ7_copyOf_59c91 {G : ab_G} {xs : List Int32} {d : Nat} {cal : ab_F} (hcs : ab_CS G (ab_Z G xs) ab_Mf cal d) : ab_BS G (ab_Z G xs) (d + 1) (ab_mY mJ7_copyOf_59c91 pJ7_copyOf_59c91) pJ7_copyOf_59c91 (bJ7_copyOf_59c91 cal) := ⟨sJ7_copyOf_59c91_0 hcs, sJ7_copyOf_59c91_1 hcs, trivial⟩
theorem dgJ3_checkIndex_8e157_0 : decode cJ3_checkIndex_8e157 0 = .ok (.iload_n 0, 1) ∧ decode cJ3_checkIndex_8e157 1 = .ok (.ifCond .lt 8, 3) ∧ decode cJ3_checkIndex_8e157 4 = .ok (.iload_n 0, 1) ∧ decode cJ3_checkIndex_8e157 5 = .ok (.iload_n 1, 1) ∧ decode cJ3_checkIndex_8e157 6 = .ok (.if_icmp .lt 10, 3) ∧ decode cJ3_checkIndex_8e157 9 = .ok (.aload_n 2, 1) ∧ decode cJ3_checkIndex_8e157 10 = .ok (.iload_n 0, 1) ∧ decode cJ3_checkIndex_8e157 11 = .ok (.iload_n 1, 1) ∧ decode cJ3_checkIndex_8e157 12 = .ok (.invokestatic 95, 3) ∧ decode cJ3_checkIndex_8e157 15 = .ok (.athrow, 1) ∧ decode cJ3_checkIndex_8e157 16 = .ok (.iload_n 0, 1) ∧ decode cJ3_checkIndex_8e157 17 = .ok (.ireturn, 1) := by decide +kernel
theorem dJ3_checkIndex_8e157_0 : decode cJ3_checkIndex_8e157 0 = .ok (.iload_n 0, 1) := dgJ3_checkIndex_8e157_0.1
theorem dJ3_checkIndex_8e157_1 : decode cJ3_checkIndex_8e157 1 = .ok (.ifCond .lt 8, 3) := dgJ3_checkIndex_8e157_0.2.1
theorem dJ3_checkIndex_8e157_4 : decode cJ3_checkIndex_8e157 4 = .ok (.iload_n 0, 1) := dgJ3_checkIndex_8e157_0.2.2.1
theorem dJ3_checkIndex_8e157_5 : decode cJ3_checkIndex_8e157 5 = .ok (.iload_n 1, 1) := dgJ3_checkIndex_8e157_0.2.2.2.1
theorem dJ3_checkIndex_8e157_6 : decode cJ3_checkIndex_8e157 6 = .ok (.if_icmp .lt 10, 3) := dgJ3_checkIndex_8e157_0.2.2.2.2.1
theorem dJ3_checkIndex_8e157_9 : decode cJ3_checkIndex_8e157 9 = .ok (.aload_n 2, 1) := dgJ3_checkIndex_8e157_0.2.2.2.2.2.1
theorem dJ3_checkIndex_8e157_10 : decode cJ3_checkIndex_8e157 10 = .ok (.iload_n 0, 1) := dgJ3_checkIndex_8e157_0.2.2.2.2.2.2.1
theorem dJ3_checkIndex_8e157_11 : decode cJ3_checkIndex_8e157 11 = .ok (.iload_n 1, 1) := dgJ3_checkIndex_8e157_0.2.2.2.2.2.2.2.1
theorem dJ3_checkIndex_8e157_16 : decode cJ3_checkIndex_8e157 16 = .ok (.iload_n 0, 1) := dgJ3_checkIndex_8e157_0.2.2.2.2.2.2.2.2.2.2.1
theorem dJ3_checkIndex_8e157_17 : decode cJ3_checkIndex_8e157 17 = .ok (.ireturn, 1) := dgJ3_checkIndex_8e157_0.2.2.2.2.2.2.2.2.2.2.2
abbrev pJ3_checkIndex_8e157 : List Nat := [0, 9, 16]
def bJ3_checkIndex_8e157_0 (cal : ab_F) : ab_K := o_iload 0 <| o_if (fun x => decide (x < 0)) 1 <| o_iload 0 <| o_iload 1 <| o_cmp (fun x y => decide (x < y)) 2 <| o_goto 1
def bJ3_checkIndex_8e157_1 (cal : ab_F) : ab_K := o_aload 2 <| o_iload 0 <| o_iload 1 <| (fun _ _ _ => none)
def bJ3_checkIndex_8e157_2 (cal : ab_F) : ab_K := o_iload 0 <| o_ret (some .int)
def bJ3_checkIndex_8e157 (cal : ab_F) : List ab_K := [bJ3_checkIndex_8e157_0 cal, bJ3_checkIndex_8e157_1 cal, bJ3_checkIndex_8e157_2 cal]
set_option maxRecDepth 100000 in
theorem sJ3_checkIndex_8e157_0 {G : ab_G} {xs : List Int32} {d : Nat} {cal : ab_F} (hcs : ab_CS G (ab_Z G xs) ab_Mf cal d) : ab_Sd G (ab_Z G xs) (d + 1) (ab_mY mJ3_checkIndex_8e157 pJ3_checkIndex_8e157) 0 (bJ3_checkIndex_8e157_0 cal) :=
  sn_iload_n dJ3_checkIndex_8e157_0 rfl <| sn_if_lt (tg := 9) dJ3_checkIndex_8e157_1 rfl rfl <| sn_iload_n dJ3_checkIndex_8e157_4 rfl <| sn_iload_n dJ3_checkIndex_8e157_5 rfl <| sn_cmp_lt (tg := 16) dJ3_checkIndex_8e157_6 rfl rfl <| sn_next rfl
set_option maxRecDepth 100000 in
theorem sJ3_checkIndex_8e157_1 {G : ab_G} {xs : List Int32} {d : Nat} {cal : ab_F} (hcs : ab_CS G (ab_Z G xs) ab_Mf cal d) : ab_Sd G (ab_Z G xs) (d + 1) (ab_mY mJ3_checkIndex_8e157 pJ3_checkIndex_8e157) 9 (bJ3_checkIndex_8e157_1 cal) :=
  sn_aload_n dJ3_checkIndex_8e157_9 rfl <| sn_iload_n dJ3_checkIndex_8e157_10 rfl <| sn_iload_n dJ3_checkIndex_8e157_11 rfl <| ab_Sd.fail
set_option maxRecDepth 100000 in
theorem sJ3_checkIndex_8e157_2 {G : ab_G} {xs : List Int32} {d : Nat} {cal : ab_F} (hcs : ab_CS G (ab_Z G xs) ab_Mf cal d) : ab_Sd G (ab_Z G xs) (d + 1) (ab_mY mJ3_checkIndex_8e157 pJ3_checkIndex_8e157) 16 (bJ3_checkIndex_8e157_2 cal) :=
  sn_iload_n dJ3_checkIndex_8e157_16 rfl <| sn_ret dJ3_checkIndex_8e157_17 ab_ri_int
theorem sJ3_checkIndex_8e157 {G : ab_G} {xs : List Int32} {d : Nat} {cal : ab_F} (hcs : ab_CS G (ab_Z G xs) ab_Mf cal d) : ab_BS G (ab_Z G xs) (d + 1) (ab_mY mJ3_checkIndex_8e157 pJ3_checkIndex_8e157) pJ3_checkIndex_8e157 (bJ3_checkIndex_8e157 cal) := ⟨sJ3_checkIndex_8e157_0 hcs, sJ3_checkIndex_8e157_1 hcs, sJ3_checkIndex_8e157_2 hcs, trivial⟩
theorem dgJ3_checkFromToIndex_8c36e_0 : decode cJ3_checkFromToIndex_8c36e 0 = .ok (.iload_n 0, 1) ∧ decode cJ3_checkFromToIndex_8c36e 1 = .ok (.ifCond .lt 13, 3) ∧ decode cJ3_checkFromToIndex_8c36e 4 = .ok (.iload_n 0, 1) ∧ decode cJ3_checkFromToIndex_8c36e 5 = .ok (.iload_n 1, 1) ∧ decode cJ3_checkFromToIndex_8c36e 6 = .ok (.if_icmp .gt 8, 3) ∧ decode cJ3_checkFromToIndex_8c36e 9 = .ok (.iload_n 1, 1) ∧ decode cJ3_checkFromToIndex_8c36e 10 = .ok (.iload_n 2, 1) ∧ decode cJ3_checkFromToIndex_8c36e 11 = .ok (.if_icmp .le 11, 3) ∧ decode cJ3_checkFromToIndex_8c36e 14 = .ok (.aload_n 3, 1) ∧ decode cJ3_checkFromToIndex_8c36e 15 = .ok (.iload_n 0, 1) ∧ decode cJ3_checkFromToIndex_8c36e 16 = .ok (.iload_n 1, 1) ∧ decode cJ3_checkFromToIndex_8c36e 17 = .ok (.iload_n 2, 1) ∧ decode cJ3_checkFromToIndex_8c36e 18 = .ok (.invokestatic 99, 3) ∧ decode cJ3_checkFromToIndex_8c36e 21 = .ok (.athrow, 1) ∧ decode cJ3_checkFromToIndex_8c36e 22 = .ok (.iload_n 0, 1) ∧ decode cJ3_checkFromToIndex_8c36e 23 = .ok (.ireturn, 1) := by decide +kernel
theorem dJ3_checkFromToIndex_8c36e_0 : decode cJ3_checkFromToIndex_8c36e 0 = .ok (.iload_n 0, 1) := dgJ3_checkFromToIndex_8c36e_0.1
theorem dJ3_checkFromToIndex_8c36e_1 : decode cJ3_checkFromToIndex_8c36e 1 = .ok (.ifCond .lt 13, 3) := dgJ3_checkFromToIndex_8c36e_0.2.1
theorem dJ3_checkFromToIndex_8c36e_4 : decode cJ3_checkFromToIndex_8c36e 4 = .ok (.iload_n 0, 1) := dgJ3_checkFromToIndex_8c36e_0.2.2.1
theorem dJ3_checkFromToIndex_8c36e_5 : decode cJ3_checkFromToIndex_8c36e 5 = .ok (.iload_n 1, 1) := dgJ3_checkFromToIndex_8c36e_0.2.2.2.1
theorem dJ3_checkFromToIndex_8c36e_6 : decode cJ3_checkFromToIndex_8c36e 6 = .ok (.if_icmp .gt 8, 3) := dgJ3_checkFromToIndex_8c36e_0.2.2.2.2.1
theorem dJ3_checkFromToIndex_8c36e_9 : decode cJ3_checkFromToIndex_8c36e 9 = .ok (.iload_n 1, 1) := dgJ3_checkFromToIndex_8c36e_0.2.2.2.2.2.1
theorem dJ3_checkFromToIndex_8c36e_10 : decode cJ3_checkFromToIndex_8c36e 10 = .ok (.iload_n 2, 1) := dgJ3_checkFromToIndex_8c36e_0.2.2.2.2.2.2.1
theorem dJ3_checkFromToIndex_8c36e_11 : decode cJ3_checkFromToIndex_8c36e 11 = .ok (.if_icmp .le 11, 3) := dgJ3_checkFromToIndex_8c36e_0.2.2.2.2.2.2.2.1
theorem dJ3_checkFromToIndex_8c36e_14 : decode cJ3_checkFromToIndex_8c36e 14 = .ok (.aload_n 3, 1) := dgJ3_checkFromToIndex_8c36e_0.2.2.2.2.2.2.2.2.1
theorem dJ3_checkFromToIndex_8c36e_15 : decode cJ3_checkFromToIndex_8c36e 15 = .ok (.iload_n 0, 1) := dgJ3_checkFromToIndex_8c36e_0.2.2.2.2.2.2.2.2.2.1
theorem dJ3_checkFromToIndex_8c36e_16 : decode cJ3_checkFromToIndex_8c36e 16 = .ok (.iload_n 1, 1) := dgJ3_checkFromToIndex_8c36e_0.2.2.2.2.2.2.2.2.2.2.1
theorem dJ3_checkFromToIndex_8c36e_17 : decode cJ3_checkFromToIndex_8c36e 17 = .ok (.iload_n 2, 1) := dgJ3_checkFromToIndex_8c36e_0.2.2.2.2.2.2.2.2.2.2.2.1
theorem dJ3_checkFromToIndex_8c36e_22 : decode cJ3_checkFromToIndex_8c36e 22 = .ok (.iload_n 0, 1) := dgJ3_checkFromToIndex_8c36e_0.2.2.2.2.2.2.2.2.2.2.2.2.2.2.1
theorem dJ3_checkFromToIndex_8c36e_23 : decode cJ3_checkFromToIndex_8c36e 23 = .ok (.ireturn, 1) := dgJ3_checkFromToIndex_8c36e_0.2.2.2.2.2.2.2.2.2.2.2.2.2.2.2
abbrev pJ3_checkFromToIndex_8c36e : List Nat := [0, 14, 22]
def bJ3_checkFromToIndex_8c36e_0 (cal : ab_F) : ab_K := o_iload 0 <| o_if (fun x => decide (x < 0)) 1 <| o_iload 0 <| o_iload 1 <| o_cmp (fun x y => decide (y < x)) 1 <| o_iload 1 <| o_iload 2 <| o_cmp (fun x y => decide (x ≤ y)) 2 <| o_goto 1
def bJ3_checkFromToIndex_8c36e_1 (cal : ab_F) : ab_K := o_aload 3 <| o_iload 0 <| o_iload 1 <| o_iload 2 <| (fun _ _ _ => none)
def bJ3_checkFromToIndex_8c36e_2 (cal : ab_F) : ab_K := o_iload 0 <| o_ret (some .int)
def bJ3_checkFromToIndex_8c36e (cal : ab_F) : List ab_K := [bJ3_checkFromToIndex_8c36e_0 cal, bJ3_checkFromToIndex_8c36e_1 cal, bJ3_checkFromToIndex_8c36e_2 cal]
set_option maxRecDepth 100000 in
theorem sJ3_checkFromToIndex_8c36e_0 {G : ab_G} {xs : List Int32} {d : Nat} {cal : ab_F} (hcs : ab_CS G (ab_Z G xs) ab_Mf cal d) : ab_Sd G (ab_Z G xs) (d + 1) (ab_mY mJ3_checkFromToIndex_8c36e pJ3_checkFromToIndex_8c36e) 0 (bJ3_checkFromToIndex_8c36e_0 cal) :=
  sn_iload_n dJ3_checkFromToIndex_8c36e_0 rfl <| sn_if_lt (tg := 14) dJ3_checkFromToIndex_8c36e_1 rfl rfl <| sn_iload_n dJ3_checkFromToIndex_8c36e_4 rfl <| sn_iload_n dJ3_checkFromToIndex_8c36e_5 rfl <| sn_cmp_gt (tg := 14) dJ3_checkFromToIndex_8c36e_6 rfl rfl <| sn_iload_n dJ3_checkFromToIndex_8c36e_9 rfl <| sn_iload_n dJ3_checkFromToIndex_8c36e_10 rfl <| sn_cmp_le (tg := 22) dJ3_checkFromToIndex_8c36e_11 rfl rfl <| sn_next rfl
set_option maxRecDepth 100000 in
theorem sJ3_checkFromToIndex_8c36e_1 {G : ab_G} {xs : List Int32} {d : Nat} {cal : ab_F} (hcs : ab_CS G (ab_Z G xs) ab_Mf cal d) : ab_Sd G (ab_Z G xs) (d + 1) (ab_mY mJ3_checkFromToIndex_8c36e pJ3_checkFromToIndex_8c36e) 14 (bJ3_checkFromToIndex_8c36e_1 cal) :=
  sn_aload_n dJ3_checkFromToIndex_8c36e_14 rfl <| sn_iload_n dJ3_checkFromToIndex_8c36e_15 rfl <| sn_iload_n dJ3_checkFromToIndex_8c36e_16 rfl <| sn_iload_n dJ3_checkFromToIndex_8c36e_17 rfl <| ab_Sd.fail
set_option maxRecDepth 100000 in
theorem sJ3_checkFromToIndex_8c36e_2 {G : ab_G} {xs : List Int32} {d : Nat} {cal : ab_F} (hcs : ab_CS G (ab_Z G xs) ab_Mf cal d) : ab_Sd G (ab_Z G xs) (d + 1) (ab_mY mJ3_checkFromToIndex_8c36e pJ3_checkFromToIndex_8c36e) 22 (bJ3_checkFromToIndex_8c36e_2 cal) :=
  sn_iload_n dJ3_checkFromToIndex_8c36e_22 rfl <| sn_ret dJ3_checkFromToIndex_8c36e_23 ab_ri_int
theorem sJ3_checkFromToIndex_8c36e {G : ab_G} {xs : List Int32} {d : Nat} {cal : ab_F} (hcs : ab_CS G (ab_Z G xs) ab_Mf cal d) : ab_BS G (ab_Z G xs) (d + 1) (ab_mY mJ3_checkFromToIndex_8c36e pJ3_checkFromToIndex_8c36e) pJ3_checkFromToIndex_8c36e (bJ3_checkFromToIndex_8c36e cal) := ⟨sJ3_checkFromToIndex_8c36e_0 hcs, sJ3_checkFromToIndex_8c36e_1 hcs, sJ3_checkFromToIndex_8c36e_2 hcs, trivial⟩
