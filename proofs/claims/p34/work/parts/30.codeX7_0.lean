theorem dgX7_init_0 : decode cX7_init 0 = .ok (.aload_n 0, 1) ∧ decode cX7_init 1 = .ok (.invokespecial 3, 3) ∧ decode cX7_init 4 = .ok (.aload_n 0, 1) ∧ decode cX7_init 5 = .ok (.new 9, 3) ∧ decode cX7_init 8 = .ok (.dup, 1) ∧ decode cX7_init 9 = .ok (.invokespecial 11, 3) ∧ decode cX7_init 12 = .ok (.putfield 12, 3) ∧ decode cX7_init 15 = .ok (.aload_n 0, 1) ∧ decode cX7_init 16 = .ok (.bipush 64, 2) ∧ decode cX7_init 18 = .ok (.newarray .int, 2) ∧ decode cX7_init 20 = .ok (.putfield 18, 3) ∧ decode cX7_init 23 = .ok (.aload_n 0, 1) ∧ decode cX7_init 24 = .ok (.bipush 6, 2) ∧ decode cX7_init 26 = .ok (.newarray .int, 2) ∧ decode cX7_init 28 = .ok (.putfield 22, 3) ∧ decode cX7_init 31 = .ok (.return_, 1) := by decide +kernel
theorem dX7_init_0 : decode cX7_init 0 = .ok (.aload_n 0, 1) := dgX7_init_0.1
theorem dX7_init_1 : decode cX7_init 1 = .ok (.invokespecial 3, 3) := dgX7_init_0.2.1
theorem dX7_init_4 : decode cX7_init 4 = .ok (.aload_n 0, 1) := dgX7_init_0.2.2.1
theorem dX7_init_5 : decode cX7_init 5 = .ok (.new 9, 3) := dgX7_init_0.2.2.2.1
theorem dX7_init_8 : decode cX7_init 8 = .ok (.dup, 1) := dgX7_init_0.2.2.2.2.1
theorem dX7_init_9 : decode cX7_init 9 = .ok (.invokespecial 11, 3) := dgX7_init_0.2.2.2.2.2.1
theorem dX7_init_12 : decode cX7_init 12 = .ok (.putfield 12, 3) := dgX7_init_0.2.2.2.2.2.2.1
theorem dX7_init_15 : decode cX7_init 15 = .ok (.aload_n 0, 1) := dgX7_init_0.2.2.2.2.2.2.2.1
theorem dX7_init_16 : decode cX7_init 16 = .ok (.bipush 64, 2) := dgX7_init_0.2.2.2.2.2.2.2.2.1
theorem dX7_init_18 : decode cX7_init 18 = .ok (.newarray .int, 2) := dgX7_init_0.2.2.2.2.2.2.2.2.2.1
theorem dX7_init_20 : decode cX7_init 20 = .ok (.putfield 18, 3) := dgX7_init_0.2.2.2.2.2.2.2.2.2.2.1
theorem dX7_init_23 : decode cX7_init 23 = .ok (.aload_n 0, 1) := dgX7_init_0.2.2.2.2.2.2.2.2.2.2.2.1
theorem dX7_init_24 : decode cX7_init 24 = .ok (.bipush 6, 2) := dgX7_init_0.2.2.2.2.2.2.2.2.2.2.2.2.1
theorem dX7_init_26 : decode cX7_init 26 = .ok (.newarray .int, 2) := dgX7_init_0.2.2.2.2.2.2.2.2.2.2.2.2.2.1
theorem dX7_init_28 : decode cX7_init 28 = .ok (.putfield 22, 3) := dgX7_init_0.2.2.2.2.2.2.2.2.2.2.2.2.2.2.1
theorem dX7_init_31 : decode cX7_init 31 = .ok (.return_, 1) := dgX7_init_0.2.2.2.2.2.2.2.2.2.2.2.2.2.2.2
abbrev pX7_init : List Nat := [0]
def bX7_init_0 (cal : ab_F) : ab_K := o_aload 0 <| o_oinit <| o_aload 0 <| o_new 3 [.null, .null, .null, .null, .null, .null, .null, .null, .null, .null, .int 0, .int 0, .int 0, .int 0, .int 0] <| o_dup <| o_callI cal 29 0 <| o_putA 6 0 <| o_aload 0 <| o_push (.int 64) <| o_newi 0 <| o_putA 6 1 <| o_aload 0 <| o_push (.int 6) <| o_newi 0 <| o_putA 6 2 <| o_ret none
def bX7_init (cal : ab_F) : List ab_K := [bX7_init_0 cal]
set_option maxRecDepth 100000 in
theorem sX7_init_0 {G : ab_G} {xs : List Int32} {d : Nat} {cal : ab_F} (hcs : ab_CS G (ab_Z G xs) ab_Mf cal d) : ab_Sd G (ab_Z G xs) (d + 1) (ab_mY mX7_init pX7_init) 0 (bX7_init_0 cal) :=
  sn_aload_n dX7_init_0 rfl <| sn_oinit (Nat.le_add_left 1 _) dX7_init_1 w_160 w_80 w_81 <| sn_aload_n dX7_init_4 rfl <| sn_new tyX4 tyX4_ok dX7_init_5 rfl hinX4 w_161 w_83 w_56 rfl <| sn_dup dX7_init_8 <| sq_callI mt_29 hcs dX7_init_9 w_162 w_85 w_56 rfl rfl w_86 hy_29 hm_29 <| sn_putA tyX7 tyX7_ok nmX7 dX7_init_12 rfl hinX7 (by decide) w_163 (Or.inr ⟨rfl, rfl, rfl⟩) (tyX7_ok 0 (by decide)) (fun _ => ⟨rfl, rfl⟩) ⟨rfl, rfl⟩ <| sn_aload_n dX7_init_15 rfl <| sn_bipush dX7_init_16 rfl <| sn_newi dX7_init_18 rfl w_154 rfl (fun _ _ h => h) rfl (by decide) <| sn_putA tyX7 tyX7_ok nmX7 dX7_init_20 rfl hinX7 (by decide) w_164 (Or.inr ⟨rfl, rfl, rfl⟩) (tyX7_ok 1 (by decide)) (fun _ => ⟨rfl, rfl⟩) ⟨rfl, rfl⟩ <| sn_aload_n dX7_init_23 rfl <| sn_bipush dX7_init_24 rfl <| sn_newi dX7_init_26 rfl w_154 rfl (fun _ _ h => h) rfl (by decide) <| sn_putA tyX7 tyX7_ok nmX7 dX7_init_28 rfl hinX7 (by decide) w_165 (Or.inr ⟨rfl, rfl, rfl⟩) (tyX7_ok 2 (by decide)) (fun _ => ⟨rfl, rfl⟩) ⟨rfl, rfl⟩ <| sn_ret dX7_init_31 ab_ri_void
theorem sX7_init {G : ab_G} {xs : List Int32} {d : Nat} {cal : ab_F} (hcs : ab_CS G (ab_Z G xs) ab_Mf cal d) : ab_BS G (ab_Z G xs) (d + 1) (ab_mY mX7_init pX7_init) pX7_init (bX7_init cal) := ⟨sX7_init_0 hcs, trivial⟩
theorem dgX7_behindDays_0 : decode cX7_behindDays 0 = .ok (.aload_n 0, 1) ∧ decode cX7_behindDays 1 = .ok (.getfield 12, 3) ∧ decode cX7_behindDays 4 = .ok (.aload_n 1, 1) ∧ decode cX7_behindDays 5 = .ok (.invokevirtual 25, 3) ∧ decode cX7_behindDays 8 = .ok (.aload_n 0, 1) ∧ decode cX7_behindDays 9 = .ok (.getfield 12, 3) ∧ decode cX7_behindDays 12 = .ok (.iload_n 2, 1) ∧ decode cX7_behindDays 13 = .ok (.invokevirtual 29, 3) ∧ decode cX7_behindDays 16 = .ok (.aload_n 0, 1) ∧ decode cX7_behindDays 17 = .ok (.getfield 12, 3) ∧ decode cX7_behindDays 20 = .ok (.areturn, 1) := by decide +kernel
theorem dX7_behindDays_0 : decode cX7_behindDays 0 = .ok (.aload_n 0, 1) := dgX7_behindDays_0.1
theorem dX7_behindDays_1 : decode cX7_behindDays 1 = .ok (.getfield 12, 3) := dgX7_behindDays_0.2.1
theorem dX7_behindDays_4 : decode cX7_behindDays 4 = .ok (.aload_n 1, 1) := dgX7_behindDays_0.2.2.1
theorem dX7_behindDays_5 : decode cX7_behindDays 5 = .ok (.invokevirtual 25, 3) := dgX7_behindDays_0.2.2.2.1
theorem dX7_behindDays_8 : decode cX7_behindDays 8 = .ok (.aload_n 0, 1) := dgX7_behindDays_0.2.2.2.2.1
theorem dX7_behindDays_9 : decode cX7_behindDays 9 = .ok (.getfield 12, 3) := dgX7_behindDays_0.2.2.2.2.2.1
theorem dX7_behindDays_12 : decode cX7_behindDays 12 = .ok (.iload_n 2, 1) := dgX7_behindDays_0.2.2.2.2.2.2.1
theorem dX7_behindDays_13 : decode cX7_behindDays 13 = .ok (.invokevirtual 29, 3) := dgX7_behindDays_0.2.2.2.2.2.2.2.1
theorem dX7_behindDays_16 : decode cX7_behindDays 16 = .ok (.aload_n 0, 1) := dgX7_behindDays_0.2.2.2.2.2.2.2.2.1
theorem dX7_behindDays_17 : decode cX7_behindDays 17 = .ok (.getfield 12, 3) := dgX7_behindDays_0.2.2.2.2.2.2.2.2.2.1
theorem dX7_behindDays_20 : decode cX7_behindDays 20 = .ok (.areturn, 1) := dgX7_behindDays_0.2.2.2.2.2.2.2.2.2.2
abbrev pX7_behindDays : List Nat := [0]
def bX7_behindDays_0 (cal : ab_F) : ab_K := o_aload 0 <| o_getf 6 0 <| o_aload 1 <| o_callV cal 30 1 3 <| o_aload 0 <| o_getf 6 0 <| o_iload 2 <| o_callV cal 51 1 3 <| o_aload 0 <| o_getf 6 0 <| o_ret (some (.object "DominoKing$Table"))
def bX7_behindDays (cal : ab_F) : List ab_K := [bX7_behindDays_0 cal]
set_option maxRecDepth 100000 in
theorem sX7_behindDays_0 {G : ab_G} {xs : List Int32} {d : Nat} {cal : ab_F} (hcs : ab_CS G (ab_Z G xs) ab_Mf cal d) : ab_Sd G (ab_Z G xs) (d + 1) (ab_mY mX7_behindDays pX7_behindDays) 0 (bX7_behindDays_0 cal) :=
  sn_aload_n dX7_behindDays_0 rfl <| sn_getf dX7_behindDays_1 rfl hinX7 (by decide) w_163 <| sn_aload_n dX7_behindDays_4 rfl <| sq_callV mt_30 hcs dX7_behindDays_5 rfl w_589 w_590 w_591 w_56 w_592 hy_30 hm_30 <| sn_aload_n dX7_behindDays_8 rfl <| sn_getf dX7_behindDays_9 rfl hinX7 (by decide) w_163 <| sn_iload_n dX7_behindDays_12 rfl <| sq_callV mt_51 hcs dX7_behindDays_13 rfl w_596 w_485 w_486 w_56 w_487 hy_51 hm_51 <| sn_aload_n dX7_behindDays_16 rfl <| sn_getf dX7_behindDays_17 rfl hinX7 (by decide) w_163 <| sn_ret dX7_behindDays_20 ab_ri_obj
theorem sX7_behindDays {G : ab_G} {xs : List Int32} {d : Nat} {cal : ab_F} (hcs : ab_CS G (ab_Z G xs) ab_Mf cal d) : ab_BS G (ab_Z G xs) (d + 1) (ab_mY mX7_behindDays pX7_behindDays) pX7_behindDays (bX7_behindDays cal) := ⟨sX7_behindDays_0 hcs, trivial⟩
theorem dgX7_daysTillLaid_0 : decode cX7_daysTillLaid 0 = .ok (.aload_n 0, 1) ∧ decode cX7_daysTillLaid 1 = .ok (.getfield 12, 3) ∧ decode cX7_daysTillLaid 4 = .ok (.aload_n 1, 1) ∧ decode cX7_daysTillLaid 5 = .ok (.invokevirtual 25, 3) ∧ decode cX7_daysTillLaid 8 = .ok (.iconst 0, 1) ∧ decode cX7_daysTillLaid 9 = .ok (.istore_n 2, 1) ∧ decode cX7_daysTillLaid 10 = .ok (.iload_n 2, 1) ∧ decode cX7_daysTillLaid 11 = .ok (.sipush 200, 3) ∧ decode cX7_daysTillLaid 14 = .ok (.if_icmp .gt 43, 3) ∧ decode cX7_daysTillLaid 17 = .ok (.aload_n 0, 1) ∧ decode cX7_daysTillLaid 18 = .ok (.getfield 12, 3) ∧ decode cX7_daysTillLaid 21 = .ok (.invokevirtual 33, 3) ∧ decode cX7_daysTillLaid 24 = .ok (.istore_n 3, 1) ∧ decode cX7_daysTillLaid 25 = .ok (.iload_n 3, 1) ∧ decode cX7_daysTillLaid 26 = .ok (.bipush 12, 2) ∧ decode cX7_daysTillLaid 28 = .ok (.if_icmp .eq 14, 3) := by decide +kernel
theorem dX7_daysTillLaid_0 : decode cX7_daysTillLaid 0 = .ok (.aload_n 0, 1) := dgX7_daysTillLaid_0.1
theorem dX7_daysTillLaid_1 : decode cX7_daysTillLaid 1 = .ok (.getfield 12, 3) := dgX7_daysTillLaid_0.2.1
theorem dX7_daysTillLaid_4 : decode cX7_daysTillLaid 4 = .ok (.aload_n 1, 1) := dgX7_daysTillLaid_0.2.2.1
theorem dX7_daysTillLaid_5 : decode cX7_daysTillLaid 5 = .ok (.invokevirtual 25, 3) := dgX7_daysTillLaid_0.2.2.2.1
theorem dX7_daysTillLaid_8 : decode cX7_daysTillLaid 8 = .ok (.iconst 0, 1) := dgX7_daysTillLaid_0.2.2.2.2.1
theorem dX7_daysTillLaid_9 : decode cX7_daysTillLaid 9 = .ok (.istore_n 2, 1) := dgX7_daysTillLaid_0.2.2.2.2.2.1
theorem dX7_daysTillLaid_10 : decode cX7_daysTillLaid 10 = .ok (.iload_n 2, 1) := dgX7_daysTillLaid_0.2.2.2.2.2.2.1
theorem dX7_daysTillLaid_11 : decode cX7_daysTillLaid 11 = .ok (.sipush 200, 3) := dgX7_daysTillLaid_0.2.2.2.2.2.2.2.1
theorem dX7_daysTillLaid_14 : decode cX7_daysTillLaid 14 = .ok (.if_icmp .gt 43, 3) := dgX7_daysTillLaid_0.2.2.2.2.2.2.2.2.1
theorem dX7_daysTillLaid_17 : decode cX7_daysTillLaid 17 = .ok (.aload_n 0, 1) := dgX7_daysTillLaid_0.2.2.2.2.2.2.2.2.2.1
theorem dX7_daysTillLaid_18 : decode cX7_daysTillLaid 18 = .ok (.getfield 12, 3) := dgX7_daysTillLaid_0.2.2.2.2.2.2.2.2.2.2.1
theorem dX7_daysTillLaid_21 : decode cX7_daysTillLaid 21 = .ok (.invokevirtual 33, 3) := dgX7_daysTillLaid_0.2.2.2.2.2.2.2.2.2.2.2.1
theorem dX7_daysTillLaid_24 : decode cX7_daysTillLaid 24 = .ok (.istore_n 3, 1) := dgX7_daysTillLaid_0.2.2.2.2.2.2.2.2.2.2.2.2.1
theorem dX7_daysTillLaid_25 : decode cX7_daysTillLaid 25 = .ok (.iload_n 3, 1) := dgX7_daysTillLaid_0.2.2.2.2.2.2.2.2.2.2.2.2.2.1
theorem dX7_daysTillLaid_26 : decode cX7_daysTillLaid 26 = .ok (.bipush 12, 2) := dgX7_daysTillLaid_0.2.2.2.2.2.2.2.2.2.2.2.2.2.2.1
theorem dX7_daysTillLaid_28 : decode cX7_daysTillLaid 28 = .ok (.if_icmp .eq 14, 3) := dgX7_daysTillLaid_0.2.2.2.2.2.2.2.2.2.2.2.2.2.2.2
theorem dgX7_daysTillLaid_1 : decode cX7_daysTillLaid 31 = .ok (.iload_n 3, 1) ∧ decode cX7_daysTillLaid 32 = .ok (.aload_n 0, 1) ∧ decode cX7_daysTillLaid 33 = .ok (.getfield 12, 3) ∧ decode cX7_daysTillLaid 36 = .ok (.getfield 37, 3) ∧ decode cX7_daysTillLaid 39 = .ok (.if_icmp .ne 5, 3) ∧ decode cX7_daysTillLaid 42 = .ok (.iload_n 2, 1) ∧ decode cX7_daysTillLaid 43 = .ok (.ireturn, 1) ∧ decode cX7_daysTillLaid 44 = .ok (.aload_n 0, 1) ∧ decode cX7_daysTillLaid 45 = .ok (.getfield 12, 3) ∧ decode cX7_daysTillLaid 48 = .ok (.invokevirtual 41, 3) ∧ decode cX7_daysTillLaid 51 = .ok (.iinc 2 1, 3) ∧ decode cX7_daysTillLaid 54 = .ok (.goto (-44), 3) ∧ decode cX7_daysTillLaid 57 = .ok (.ldc 44, 2) ∧ decode cX7_daysTillLaid 59 = .ok (.ireturn, 1) := by decide +kernel
theorem dX7_daysTillLaid_31 : decode cX7_daysTillLaid 31 = .ok (.iload_n 3, 1) := dgX7_daysTillLaid_1.1
theorem dX7_daysTillLaid_32 : decode cX7_daysTillLaid 32 = .ok (.aload_n 0, 1) := dgX7_daysTillLaid_1.2.1
theorem dX7_daysTillLaid_33 : decode cX7_daysTillLaid 33 = .ok (.getfield 12, 3) := dgX7_daysTillLaid_1.2.2.1
theorem dX7_daysTillLaid_36 : decode cX7_daysTillLaid 36 = .ok (.getfield 37, 3) := dgX7_daysTillLaid_1.2.2.2.1
theorem dX7_daysTillLaid_39 : decode cX7_daysTillLaid 39 = .ok (.if_icmp .ne 5, 3) := dgX7_daysTillLaid_1.2.2.2.2.1
theorem dX7_daysTillLaid_42 : decode cX7_daysTillLaid 42 = .ok (.iload_n 2, 1) := dgX7_daysTillLaid_1.2.2.2.2.2.1
theorem dX7_daysTillLaid_43 : decode cX7_daysTillLaid 43 = .ok (.ireturn, 1) := dgX7_daysTillLaid_1.2.2.2.2.2.2.1
theorem dX7_daysTillLaid_44 : decode cX7_daysTillLaid 44 = .ok (.aload_n 0, 1) := dgX7_daysTillLaid_1.2.2.2.2.2.2.2.1
theorem dX7_daysTillLaid_45 : decode cX7_daysTillLaid 45 = .ok (.getfield 12, 3) := dgX7_daysTillLaid_1.2.2.2.2.2.2.2.2.1
theorem dX7_daysTillLaid_48 : decode cX7_daysTillLaid 48 = .ok (.invokevirtual 41, 3) := dgX7_daysTillLaid_1.2.2.2.2.2.2.2.2.2.1
theorem dX7_daysTillLaid_51 : decode cX7_daysTillLaid 51 = .ok (.iinc 2 1, 3) := dgX7_daysTillLaid_1.2.2.2.2.2.2.2.2.2.2.1
theorem dX7_daysTillLaid_54 : decode cX7_daysTillLaid 54 = .ok (.goto (-44), 3) := dgX7_daysTillLaid_1.2.2.2.2.2.2.2.2.2.2.2.1
theorem dX7_daysTillLaid_57 : decode cX7_daysTillLaid 57 = .ok (.ldc 44, 2) := dgX7_daysTillLaid_1.2.2.2.2.2.2.2.2.2.2.2.2.1
theorem dX7_daysTillLaid_59 : decode cX7_daysTillLaid 59 = .ok (.ireturn, 1) := dgX7_daysTillLaid_1.2.2.2.2.2.2.2.2.2.2.2.2.2
abbrev pX7_daysTillLaid : List Nat := [0, 10, 42, 44, 57]
def bX7_daysTillLaid_0 (cal : ab_F) : ab_K := o_aload 0 <| o_getf 6 0 <| o_aload 1 <| o_callV cal 30 1 3 <| o_push (.int 0) <| o_istore 2 <| o_goto 1
def bX7_daysTillLaid_1 (cal : ab_F) : ab_K := o_iload 2 <| o_push (.int 200) <| o_cmp (fun x y => decide (y < x)) 4 <| o_aload 0 <| o_getf 6 0 <| o_callV cal 49 0 3 <| o_istore 3 <| o_iload 3 <| o_push (.int 12) <| o_cmp (fun x y => decide (x = y)) 2 <| o_iload 3 <| o_aload 0 <| o_getf 6 0 <| o_getf 3 10 <| o_cmp (fun x y => decide (¬ x = y)) 3 <| o_goto 2
def bX7_daysTillLaid_2 (cal : ab_F) : ab_K := o_iload 2 <| o_ret (some .int)
def bX7_daysTillLaid_3 (cal : ab_F) : ab_K := o_aload 0 <| o_getf 6 0 <| o_callV cal 52 0 3 <| o_iinc 2 1 <| o_goto 1
def bX7_daysTillLaid_4 (cal : ab_F) : ab_K := o_push (.int (-1000000005)) <| o_ret (some .int)
def bX7_daysTillLaid (cal : ab_F) : List ab_K := [bX7_daysTillLaid_0 cal, bX7_daysTillLaid_1 cal, bX7_daysTillLaid_2 cal, bX7_daysTillLaid_3 cal, bX7_daysTillLaid_4 cal]
set_option maxRecDepth 100000 in
theorem sX7_daysTillLaid_0 {G : ab_G} {xs : List Int32} {d : Nat} {cal : ab_F} (hcs : ab_CS G (ab_Z G xs) ab_Mf cal d) : ab_Sd G (ab_Z G xs) (d + 1) (ab_mY mX7_daysTillLaid pX7_daysTillLaid) 0 (bX7_daysTillLaid_0 cal) :=
  sn_aload_n dX7_daysTillLaid_0 rfl <| sn_getf dX7_daysTillLaid_1 rfl hinX7 (by decide) w_163 <| sn_aload_n dX7_daysTillLaid_4 rfl <| sq_callV mt_30 hcs dX7_daysTillLaid_5 rfl w_589 w_590 w_591 w_56 w_592 hy_30 hm_30 <| sn_iconst dX7_daysTillLaid_8 rfl <| sn_istore_n dX7_daysTillLaid_9 rfl (by decide) <| sn_next rfl
set_option maxRecDepth 100000 in
theorem sX7_daysTillLaid_1 {G : ab_G} {xs : List Int32} {d : Nat} {cal : ab_F} (hcs : ab_CS G (ab_Z G xs) ab_Mf cal d) : ab_Sd G (ab_Z G xs) (d + 1) (ab_mY mX7_daysTillLaid pX7_daysTillLaid) 10 (bX7_daysTillLaid_1 cal) :=
  sn_iload_n dX7_daysTillLaid_10 rfl <| sn_sipush dX7_daysTillLaid_11 rfl <| sn_cmp_gt (tg := 57) dX7_daysTillLaid_14 rfl rfl <| sn_aload_n dX7_daysTillLaid_17 rfl <| sn_getf dX7_daysTillLaid_18 rfl hinX7 (by decide) w_163 <| sq_callV mt_49 hcs dX7_daysTillLaid_21 rfl w_605 w_471 w_472 w_56 w_473 hy_49 hm_49 <| sn_istore_n dX7_daysTillLaid_24 rfl (by decide) <| sn_iload_n dX7_daysTillLaid_25 rfl <| sn_bipush dX7_daysTillLaid_26 rfl <| sn_cmp_eq (tg := 42) dX7_daysTillLaid_28 rfl rfl <| sn_iload_n dX7_daysTillLaid_31 rfl <| sn_aload_n dX7_daysTillLaid_32 rfl <| sn_getf dX7_daysTillLaid_33 rfl hinX7 (by decide) w_163 <| sn_getf dX7_daysTillLaid_36 rfl hinX4 (by decide) w_114 <| sn_cmp_ne (tg := 44) dX7_daysTillLaid_39 rfl rfl <| sn_next rfl
set_option maxRecDepth 100000 in
theorem sX7_daysTillLaid_2 {G : ab_G} {xs : List Int32} {d : Nat} {cal : ab_F} (hcs : ab_CS G (ab_Z G xs) ab_Mf cal d) : ab_Sd G (ab_Z G xs) (d + 1) (ab_mY mX7_daysTillLaid pX7_daysTillLaid) 42 (bX7_daysTillLaid_2 cal) :=
  sn_iload_n dX7_daysTillLaid_42 rfl <| sn_ret dX7_daysTillLaid_43 ab_ri_int
set_option maxRecDepth 100000 in
theorem sX7_daysTillLaid_3 {G : ab_G} {xs : List Int32} {d : Nat} {cal : ab_F} (hcs : ab_CS G (ab_Z G xs) ab_Mf cal d) : ab_Sd G (ab_Z G xs) (d + 1) (ab_mY mX7_daysTillLaid pX7_daysTillLaid) 44 (bX7_daysTillLaid_3 cal) :=
  sn_aload_n dX7_daysTillLaid_44 rfl <| sn_getf dX7_daysTillLaid_45 rfl hinX7 (by decide) w_163 <| sq_callV mt_52 hcs dX7_daysTillLaid_48 rfl w_606 w_489 w_490 w_56 w_491 hy_52 hm_52 <| sn_iinc dX7_daysTillLaid_51 rfl (by decide) <| sn_goto (tg := 10) dX7_daysTillLaid_54 rfl rfl
set_option maxRecDepth 100000 in
theorem sX7_daysTillLaid_4 {G : ab_G} {xs : List Int32} {d : Nat} {cal : ab_F} (hcs : ab_CS G (ab_Z G xs) ab_Mf cal d) : ab_Sd G (ab_Z G xs) (d + 1) (ab_mY mX7_daysTillLaid pX7_daysTillLaid) 57 (bX7_daysTillLaid_4 cal) :=
  sn_ldc dX7_daysTillLaid_57 w_555 <| sn_ret dX7_daysTillLaid_59 ab_ri_int
theorem sX7_daysTillLaid {G : ab_G} {xs : List Int32} {d : Nat} {cal : ab_F} (hcs : ab_CS G (ab_Z G xs) ab_Mf cal d) : ab_BS G (ab_Z G xs) (d + 1) (ab_mY mX7_daysTillLaid pX7_daysTillLaid) pX7_daysTillLaid (bX7_daysTillLaid cal) := ⟨sX7_daysTillLaid_0 hcs, sX7_daysTillLaid_1 hcs, sX7_daysTillLaid_2 hcs, sX7_daysTillLaid_3 hcs, sX7_daysTillLaid_4 hcs, trivial⟩
theorem dgX7_pictureWithout_0 : decode cX7_pictureWithout 0 = .ok (.aload_n 0, 1) ∧ decode cX7_pictureWithout 1 = .ok (.getfield 12, 3) ∧ decode cX7_pictureWithout 4 = .ok (.aload_n 1, 1) ∧ decode cX7_pictureWithout 5 = .ok (.invokevirtual 25, 3) ∧ decode cX7_pictureWithout 8 = .ok (.aload_n 0, 1) ∧ decode cX7_pictureWithout 9 = .ok (.getfield 12, 3) ∧ decode cX7_pictureWithout 12 = .ok (.iload_n 2, 1) ∧ decode cX7_pictureWithout 13 = .ok (.bipush 13, 2) ∧ decode cX7_pictureWithout 15 = .ok (.invokevirtual 45, 3) ∧ decode cX7_pictureWithout 18 = .ok (.aload_n 0, 1) ∧ decode cX7_pictureWithout 19 = .ok (.getfield 12, 3) ∧ decode cX7_pictureWithout 22 = .ok (.iload_n 3, 1) ∧ decode cX7_pictureWithout 23 = .ok (.invokevirtual 29, 3) ∧ decode cX7_pictureWithout 26 = .ok (.aload_n 0, 1) ∧ decode cX7_pictureWithout 27 = .ok (.getfield 12, 3) ∧ decode cX7_pictureWithout 30 = .ok (.invokevirtual 49, 3) := by decide +kernel
theorem dX7_pictureWithout_0 : decode cX7_pictureWithout 0 = .ok (.aload_n 0, 1) := dgX7_pictureWithout_0.1
theorem dX7_pictureWithout_1 : decode cX7_pictureWithout 1 = .ok (.getfield 12, 3) := dgX7_pictureWithout_0.2.1
theorem dX7_pictureWithout_4 : decode cX7_pictureWithout 4 = .ok (.aload_n 1, 1) := dgX7_pictureWithout_0.2.2.1
theorem dX7_pictureWithout_5 : decode cX7_pictureWithout 5 = .ok (.invokevirtual 25, 3) := dgX7_pictureWithout_0.2.2.2.1
theorem dX7_pictureWithout_8 : decode cX7_pictureWithout 8 = .ok (.aload_n 0, 1) := dgX7_pictureWithout_0.2.2.2.2.1
theorem dX7_pictureWithout_9 : decode cX7_pictureWithout 9 = .ok (.getfield 12, 3) := dgX7_pictureWithout_0.2.2.2.2.2.1
theorem dX7_pictureWithout_12 : decode cX7_pictureWithout 12 = .ok (.iload_n 2, 1) := dgX7_pictureWithout_0.2.2.2.2.2.2.1
theorem dX7_pictureWithout_13 : decode cX7_pictureWithout 13 = .ok (.bipush 13, 2) := dgX7_pictureWithout_0.2.2.2.2.2.2.2.1
theorem dX7_pictureWithout_15 : decode cX7_pictureWithout 15 = .ok (.invokevirtual 45, 3) := dgX7_pictureWithout_0.2.2.2.2.2.2.2.2.1
theorem dX7_pictureWithout_18 : decode cX7_pictureWithout 18 = .ok (.aload_n 0, 1) := dgX7_pictureWithout_0.2.2.2.2.2.2.2.2.2.1
theorem dX7_pictureWithout_19 : decode cX7_pictureWithout 19 = .ok (.getfield 12, 3) := dgX7_pictureWithout_0.2.2.2.2.2.2.2.2.2.2.1
theorem dX7_pictureWithout_22 : decode cX7_pictureWithout 22 = .ok (.iload_n 3, 1) := dgX7_pictureWithout_0.2.2.2.2.2.2.2.2.2.2.2.1
theorem dX7_pictureWithout_23 : decode cX7_pictureWithout 23 = .ok (.invokevirtual 29, 3) := dgX7_pictureWithout_0.2.2.2.2.2.2.2.2.2.2.2.2.1
theorem dX7_pictureWithout_26 : decode cX7_pictureWithout 26 = .ok (.aload_n 0, 1) := dgX7_pictureWithout_0.2.2.2.2.2.2.2.2.2.2.2.2.2.1
theorem dX7_pictureWithout_27 : decode cX7_pictureWithout 27 = .ok (.getfield 12, 3) := dgX7_pictureWithout_0.2.2.2.2.2.2.2.2.2.2.2.2.2.2.1
theorem dX7_pictureWithout_30 : decode cX7_pictureWithout 30 = .ok (.invokevirtual 49, 3) := dgX7_pictureWithout_0.2.2.2.2.2.2.2.2.2.2.2.2.2.2.2
theorem dX7_pictureWithout_33 : decode cX7_pictureWithout 33 = .ok (.ireturn, 1) := by decide +kernel
abbrev pX7_pictureWithout : List Nat := [0]
def bX7_pictureWithout_0 (cal : ab_F) : ab_K := o_aload 0 <| o_getf 6 0 <| o_aload 1 <| o_callV cal 30 1 3 <| o_aload 0 <| o_getf 6 0 <| o_iload 2 <| o_push (.int 13) <| o_callV cal 45 2 3 <| o_aload 0 <| o_getf 6 0 <| o_iload 3 <| o_callV cal 51 1 3 <| o_aload 0 <| o_getf 6 0 <| o_callV cal 46 0 3 <| o_ret (some .int)
def bX7_pictureWithout (cal : ab_F) : List ab_K := [bX7_pictureWithout_0 cal]
set_option maxRecDepth 100000 in
theorem sX7_pictureWithout_0 {G : ab_G} {xs : List Int32} {d : Nat} {cal : ab_F} (hcs : ab_CS G (ab_Z G xs) ab_Mf cal d) : ab_Sd G (ab_Z G xs) (d + 1) (ab_mY mX7_pictureWithout pX7_pictureWithout) 0 (bX7_pictureWithout_0 cal) :=
  sn_aload_n dX7_pictureWithout_0 rfl <| sn_getf dX7_pictureWithout_1 rfl hinX7 (by decide) w_163 <| sn_aload_n dX7_pictureWithout_4 rfl <| sq_callV mt_30 hcs dX7_pictureWithout_5 rfl w_589 w_590 w_591 w_56 w_592 hy_30 hm_30 <| sn_aload_n dX7_pictureWithout_8 rfl <| sn_getf dX7_pictureWithout_9 rfl hinX7 (by decide) w_163 <| sn_iload_n dX7_pictureWithout_12 rfl <| sn_bipush dX7_pictureWithout_13 rfl <| sq_callV mt_45 hcs dX7_pictureWithout_15 rfl w_615 w_429 w_430 w_56 w_431 hy_45 hm_45 <| sn_aload_n dX7_pictureWithout_18 rfl <| sn_getf dX7_pictureWithout_19 rfl hinX7 (by decide) w_163 <| sn_iload_n dX7_pictureWithout_22 rfl <| sq_callV mt_51 hcs dX7_pictureWithout_23 rfl w_596 w_485 w_486 w_56 w_487 hy_51 hm_51 <| sn_aload_n dX7_pictureWithout_26 rfl <| sn_getf dX7_pictureWithout_27 rfl hinX7 (by decide) w_163 <| sq_callV mt_46 hcs dX7_pictureWithout_30 rfl w_616 w_511 w_512 w_56 w_513 hy_46 hm_46 <| sn_ret dX7_pictureWithout_33 ab_ri_int
theorem sX7_pictureWithout {G : ab_G} {xs : List Int32} {d : Nat} {cal : ab_F} (hcs : ab_CS G (ab_Z G xs) ab_Mf cal d) : ab_BS G (ab_Z G xs) (d + 1) (ab_mY mX7_pictureWithout pX7_pictureWithout) pX7_pictureWithout (bX7_pictureWithout cal) := ⟨sX7_pictureWithout_0 hcs, trivial⟩
theorem dgX7_rightAhead_0 : decode cX7_rightAhead 0 = .ok (.aload_n 0, 1) ∧ decode cX7_rightAhead 1 = .ok (.getfield 12, 3) ∧ decode cX7_rightAhead 4 = .ok (.aload_n 1, 1) ∧ decode cX7_rightAhead 5 = .ok (.invokevirtual 25, 3) ∧ decode cX7_rightAhead 8 = .ok (.iconst 0, 1) ∧ decode cX7_rightAhead 9 = .ok (.istore 5, 2) ∧ decode cX7_rightAhead 11 = .ok (.iload 5, 2) ∧ decode cX7_rightAhead 13 = .ok (.iconst 2, 1) ∧ decode cX7_rightAhead 14 = .ok (.iload_n 2, 1) ∧ decode cX7_rightAhead 15 = .ok (.imul, 1) ∧ decode cX7_rightAhead 16 = .ok (.if_icmp .ge 68, 3) ∧ decode cX7_rightAhead 19 = .ok (.iload 5, 2) ∧ decode cX7_rightAhead 21 = .ok (.iconst 2, 1) ∧ decode cX7_rightAhead 22 = .ok (.irem, 1) ∧ decode cX7_rightAhead 23 = .ok (.ifCond .ne 10, 3) ∧ decode cX7_rightAhead 26 = .ok (.aload_n 0, 1) := by decide +kernel
theorem dX7_rightAhead_0 : decode cX7_rightAhead 0 = .ok (.aload_n 0, 1) := dgX7_rightAhead_0.1
theorem dX7_rightAhead_1 : decode cX7_rightAhead 1 = .ok (.getfield 12, 3) := dgX7_rightAhead_0.2.1
theorem dX7_rightAhead_4 : decode cX7_rightAhead 4 = .ok (.aload_n 1, 1) := dgX7_rightAhead_0.2.2.1
theorem dX7_rightAhead_5 : decode cX7_rightAhead 5 = .ok (.invokevirtual 25, 3) := dgX7_rightAhead_0.2.2.2.1
theorem dX7_rightAhead_8 : decode cX7_rightAhead 8 = .ok (.iconst 0, 1) := dgX7_rightAhead_0.2.2.2.2.1
theorem dX7_rightAhead_9 : decode cX7_rightAhead 9 = .ok (.istore 5, 2) := dgX7_rightAhead_0.2.2.2.2.2.1
theorem dX7_rightAhead_11 : decode cX7_rightAhead 11 = .ok (.iload 5, 2) := dgX7_rightAhead_0.2.2.2.2.2.2.1
theorem dX7_rightAhead_13 : decode cX7_rightAhead 13 = .ok (.iconst 2, 1) := dgX7_rightAhead_0.2.2.2.2.2.2.2.1
theorem dX7_rightAhead_14 : decode cX7_rightAhead 14 = .ok (.iload_n 2, 1) := dgX7_rightAhead_0.2.2.2.2.2.2.2.2.1
theorem dX7_rightAhead_15 : decode cX7_rightAhead 15 = .ok (.imul, 1) := dgX7_rightAhead_0.2.2.2.2.2.2.2.2.2.1
theorem dX7_rightAhead_16 : decode cX7_rightAhead 16 = .ok (.if_icmp .ge 68, 3) := dgX7_rightAhead_0.2.2.2.2.2.2.2.2.2.2.1
theorem dX7_rightAhead_19 : decode cX7_rightAhead 19 = .ok (.iload 5, 2) := dgX7_rightAhead_0.2.2.2.2.2.2.2.2.2.2.2.1
theorem dX7_rightAhead_21 : decode cX7_rightAhead 21 = .ok (.iconst 2, 1) := dgX7_rightAhead_0.2.2.2.2.2.2.2.2.2.2.2.2.1
theorem dX7_rightAhead_22 : decode cX7_rightAhead 22 = .ok (.irem, 1) := dgX7_rightAhead_0.2.2.2.2.2.2.2.2.2.2.2.2.2.1
theorem dX7_rightAhead_23 : decode cX7_rightAhead 23 = .ok (.ifCond .ne 10, 3) := dgX7_rightAhead_0.2.2.2.2.2.2.2.2.2.2.2.2.2.2.1
theorem dX7_rightAhead_26 : decode cX7_rightAhead 26 = .ok (.aload_n 0, 1) := dgX7_rightAhead_0.2.2.2.2.2.2.2.2.2.2.2.2.2.2.2
theorem dgX7_rightAhead_1 : decode cX7_rightAhead 27 = .ok (.getfield 12, 3) ∧ decode cX7_rightAhead 30 = .ok (.invokevirtual 41, 3) ∧ decode cX7_rightAhead 33 = .ok (.iload 5, 2) ∧ decode cX7_rightAhead 35 = .ok (.iconst 2, 1) ∧ decode cX7_rightAhead 36 = .ok (.irem, 1) ∧ decode cX7_rightAhead 37 = .ok (.ifCond .ne 13, 3) ∧ decode cX7_rightAhead 40 = .ok (.aload_n 0, 1) ∧ decode cX7_rightAhead 41 = .ok (.getfield 12, 3) ∧ decode cX7_rightAhead 44 = .ok (.invokevirtual 49, 3) ∧ decode cX7_rightAhead 47 = .ok (.goto 10, 3) ∧ decode cX7_rightAhead 50 = .ok (.aload_n 0, 1) ∧ decode cX7_rightAhead 51 = .ok (.getfield 12, 3) ∧ decode cX7_rightAhead 54 = .ok (.invokevirtual 52, 3) ∧ decode cX7_rightAhead 57 = .ok (.istore 6, 2) ∧ decode cX7_rightAhead 59 = .ok (.iload 5, 2) ∧ decode cX7_rightAhead 61 = .ok (.iload 4, 2) := by decide +kernel
theorem dX7_rightAhead_27 : decode cX7_rightAhead 27 = .ok (.getfield 12, 3) := dgX7_rightAhead_1.1
theorem dX7_rightAhead_30 : decode cX7_rightAhead 30 = .ok (.invokevirtual 41, 3) := dgX7_rightAhead_1.2.1
theorem dX7_rightAhead_33 : decode cX7_rightAhead 33 = .ok (.iload 5, 2) := dgX7_rightAhead_1.2.2.1
theorem dX7_rightAhead_35 : decode cX7_rightAhead 35 = .ok (.iconst 2, 1) := dgX7_rightAhead_1.2.2.2.1
theorem dX7_rightAhead_36 : decode cX7_rightAhead 36 = .ok (.irem, 1) := dgX7_rightAhead_1.2.2.2.2.1
theorem dX7_rightAhead_37 : decode cX7_rightAhead 37 = .ok (.ifCond .ne 13, 3) := dgX7_rightAhead_1.2.2.2.2.2.1
theorem dX7_rightAhead_40 : decode cX7_rightAhead 40 = .ok (.aload_n 0, 1) := dgX7_rightAhead_1.2.2.2.2.2.2.1
theorem dX7_rightAhead_41 : decode cX7_rightAhead 41 = .ok (.getfield 12, 3) := dgX7_rightAhead_1.2.2.2.2.2.2.2.1
theorem dX7_rightAhead_44 : decode cX7_rightAhead 44 = .ok (.invokevirtual 49, 3) := dgX7_rightAhead_1.2.2.2.2.2.2.2.2.1
theorem dX7_rightAhead_47 : decode cX7_rightAhead 47 = .ok (.goto 10, 3) := dgX7_rightAhead_1.2.2.2.2.2.2.2.2.2.1
theorem dX7_rightAhead_50 : decode cX7_rightAhead 50 = .ok (.aload_n 0, 1) := dgX7_rightAhead_1.2.2.2.2.2.2.2.2.2.2.1
theorem dX7_rightAhead_51 : decode cX7_rightAhead 51 = .ok (.getfield 12, 3) := dgX7_rightAhead_1.2.2.2.2.2.2.2.2.2.2.2.1
theorem dX7_rightAhead_54 : decode cX7_rightAhead 54 = .ok (.invokevirtual 52, 3) := dgX7_rightAhead_1.2.2.2.2.2.2.2.2.2.2.2.2.1
theorem dX7_rightAhead_57 : decode cX7_rightAhead 57 = .ok (.istore 6, 2) := dgX7_rightAhead_1.2.2.2.2.2.2.2.2.2.2.2.2.2.1
theorem dX7_rightAhead_59 : decode cX7_rightAhead 59 = .ok (.iload 5, 2) := dgX7_rightAhead_1.2.2.2.2.2.2.2.2.2.2.2.2.2.2.1
theorem dX7_rightAhead_61 : decode cX7_rightAhead 61 = .ok (.iload 4, 2) := dgX7_rightAhead_1.2.2.2.2.2.2.2.2.2.2.2.2.2.2.2
theorem dgX7_rightAhead_2 : decode cX7_rightAhead 63 = .ok (.if_icmp .ge 12, 3) ∧ decode cX7_rightAhead 66 = .ok (.aload_n 3, 1) ∧ decode cX7_rightAhead 67 = .ok (.iload 5, 2) ∧ decode cX7_rightAhead 69 = .ok (.iaload, 1) ∧ decode cX7_rightAhead 70 = .ok (.iload 6, 2) ∧ decode cX7_rightAhead 72 = .ok (.if_icmp .eq 6, 3) ∧ decode cX7_rightAhead 75 = .ok (.iload 5, 2) ∧ decode cX7_rightAhead 77 = .ok (.ireturn, 1) ∧ decode cX7_rightAhead 78 = .ok (.iinc 5 1, 3) ∧ decode cX7_rightAhead 81 = .ok (.goto (-70), 3) ∧ decode cX7_rightAhead 84 = .ok (.iload 4, 2) ∧ decode cX7_rightAhead 86 = .ok (.iconst 2, 1) ∧ decode cX7_rightAhead 87 = .ok (.iload_n 2, 1) ∧ decode cX7_rightAhead 88 = .ok (.imul, 1) ∧ decode cX7_rightAhead 89 = .ok (.if_icmp .le 9, 3) ∧ decode cX7_rightAhead 92 = .ok (.iconst 2, 1) := by decide +kernel
theorem dX7_rightAhead_63 : decode cX7_rightAhead 63 = .ok (.if_icmp .ge 12, 3) := dgX7_rightAhead_2.1
theorem dX7_rightAhead_66 : decode cX7_rightAhead 66 = .ok (.aload_n 3, 1) := dgX7_rightAhead_2.2.1
theorem dX7_rightAhead_67 : decode cX7_rightAhead 67 = .ok (.iload 5, 2) := dgX7_rightAhead_2.2.2.1
theorem dX7_rightAhead_69 : decode cX7_rightAhead 69 = .ok (.iaload, 1) := dgX7_rightAhead_2.2.2.2.1
theorem dX7_rightAhead_70 : decode cX7_rightAhead 70 = .ok (.iload 6, 2) := dgX7_rightAhead_2.2.2.2.2.1
theorem dX7_rightAhead_72 : decode cX7_rightAhead 72 = .ok (.if_icmp .eq 6, 3) := dgX7_rightAhead_2.2.2.2.2.2.1
theorem dX7_rightAhead_75 : decode cX7_rightAhead 75 = .ok (.iload 5, 2) := dgX7_rightAhead_2.2.2.2.2.2.2.1
theorem dX7_rightAhead_77 : decode cX7_rightAhead 77 = .ok (.ireturn, 1) := dgX7_rightAhead_2.2.2.2.2.2.2.2.1
theorem dX7_rightAhead_78 : decode cX7_rightAhead 78 = .ok (.iinc 5 1, 3) := dgX7_rightAhead_2.2.2.2.2.2.2.2.2.1
theorem dX7_rightAhead_81 : decode cX7_rightAhead 81 = .ok (.goto (-70), 3) := dgX7_rightAhead_2.2.2.2.2.2.2.2.2.2.1
theorem dX7_rightAhead_84 : decode cX7_rightAhead 84 = .ok (.iload 4, 2) := dgX7_rightAhead_2.2.2.2.2.2.2.2.2.2.2.1
theorem dX7_rightAhead_86 : decode cX7_rightAhead 86 = .ok (.iconst 2, 1) := dgX7_rightAhead_2.2.2.2.2.2.2.2.2.2.2.2.1
theorem dX7_rightAhead_87 : decode cX7_rightAhead 87 = .ok (.iload_n 2, 1) := dgX7_rightAhead_2.2.2.2.2.2.2.2.2.2.2.2.2.1
theorem dX7_rightAhead_88 : decode cX7_rightAhead 88 = .ok (.imul, 1) := dgX7_rightAhead_2.2.2.2.2.2.2.2.2.2.2.2.2.2.1
theorem dX7_rightAhead_89 : decode cX7_rightAhead 89 = .ok (.if_icmp .le 9, 3) := dgX7_rightAhead_2.2.2.2.2.2.2.2.2.2.2.2.2.2.2.1
theorem dX7_rightAhead_92 : decode cX7_rightAhead 92 = .ok (.iconst 2, 1) := dgX7_rightAhead_2.2.2.2.2.2.2.2.2.2.2.2.2.2.2.2
theorem dgX7_rightAhead_3 : decode cX7_rightAhead 93 = .ok (.iload_n 2, 1) ∧ decode cX7_rightAhead 94 = .ok (.imul, 1) ∧ decode cX7_rightAhead 95 = .ok (.goto 4, 3) ∧ decode cX7_rightAhead 98 = .ok (.iconst (-1), 1) ∧ decode cX7_rightAhead 99 = .ok (.ireturn, 1) := by decide +kernel
theorem dX7_rightAhead_93 : decode cX7_rightAhead 93 = .ok (.iload_n 2, 1) := dgX7_rightAhead_3.1
theorem dX7_rightAhead_94 : decode cX7_rightAhead 94 = .ok (.imul, 1) := dgX7_rightAhead_3.2.1
theorem dX7_rightAhead_95 : decode cX7_rightAhead 95 = .ok (.goto 4, 3) := dgX7_rightAhead_3.2.2.1
theorem dX7_rightAhead_98 : decode cX7_rightAhead 98 = .ok (.iconst (-1), 1) := dgX7_rightAhead_3.2.2.2.1
theorem dX7_rightAhead_99 : decode cX7_rightAhead 99 = .ok (.ireturn, 1) := dgX7_rightAhead_3.2.2.2.2
abbrev pX7_rightAhead : List Nat := [0, 11, 33, 50, 57, 75, 78, 84, 98, 99]
def bX7_rightAhead_0 (cal : ab_F) : ab_K := o_aload 0 <| o_getf 6 0 <| o_aload 1 <| o_callV cal 30 1 3 <| o_push (.int 0) <| o_istore 5 <| o_goto 1
def bX7_rightAhead_1 (cal : ab_F) : ab_K := o_iload 5 <| o_push (.int 2) <| o_iload 2 <| o_bin (fun x y => x * y) <| o_cmp (fun x y => decide (y ≤ x)) 7 <| o_iload 5 <| o_push (.int 2) <| o_div (fun x y => x - x / y * y) <| o_if (fun x => decide (¬ x = 0)) 2 <| o_aload 0 <| o_getf 6 0 <| o_callV cal 52 0 3 <| o_goto 2
def bX7_rightAhead_2 (cal : ab_F) : ab_K := o_iload 5 <| o_push (.int 2) <| o_div (fun x y => x - x / y * y) <| o_if (fun x => decide (¬ x = 0)) 3 <| o_aload 0 <| o_getf 6 0 <| o_callV cal 46 0 3 <| o_goto 4
def bX7_rightAhead_3 (cal : ab_F) : ab_K := o_aload 0 <| o_getf 6 0 <| o_callV cal 47 0 3 <| o_goto 4
def bX7_rightAhead_4 (cal : ab_F) : ab_K := o_istore 6 <| o_iload 5 <| o_iload 4 <| o_cmp (fun x y => decide (y ≤ x)) 5 <| o_aload 3 <| o_iload 5 <| o_iald 0 <| o_iload 6 <| o_cmp (fun x y => decide (x = y)) 6 <| o_goto 5
def bX7_rightAhead_5 (cal : ab_F) : ab_K := o_iload 5 <| o_ret (some .int)
def bX7_rightAhead_6 (cal : ab_F) : ab_K := o_iinc 5 1 <| o_goto 1
def bX7_rightAhead_7 (cal : ab_F) : ab_K := o_iload 4 <| o_push (.int 2) <| o_iload 2 <| o_bin (fun x y => x * y) <| o_cmp (fun x y => decide (x ≤ y)) 8 <| o_push (.int 2) <| o_iload 2 <| o_bin (fun x y => x * y) <| o_goto 9
def bX7_rightAhead_8 (cal : ab_F) : ab_K := o_push (.int (-1)) <| o_goto 9
def bX7_rightAhead_9 (cal : ab_F) : ab_K := o_ret (some .int)
def bX7_rightAhead (cal : ab_F) : List ab_K := [bX7_rightAhead_0 cal, bX7_rightAhead_1 cal, bX7_rightAhead_2 cal, bX7_rightAhead_3 cal, bX7_rightAhead_4 cal, bX7_rightAhead_5 cal, bX7_rightAhead_6 cal, bX7_rightAhead_7 cal, bX7_rightAhead_8 cal, bX7_rightAhead_9 cal]
set_option maxRecDepth 100000 in
theorem sX7_rightAhead_0 {G : ab_G} {xs : List Int32} {d : Nat} {cal : ab_F} (hcs : ab_CS G (ab_Z G xs) ab_Mf cal d) : ab_Sd G (ab_Z G xs) (d + 1) (ab_mY mX7_rightAhead pX7_rightAhead) 0 (bX7_rightAhead_0 cal) :=
  sn_aload_n dX7_rightAhead_0 rfl <| sn_getf dX7_rightAhead_1 rfl hinX7 (by decide) w_163 <| sn_aload_n dX7_rightAhead_4 rfl <| sq_callV mt_30 hcs dX7_rightAhead_5 rfl w_589 w_590 w_591 w_56 w_592 hy_30 hm_30 <| sn_iconst dX7_rightAhead_8 rfl <| sn_istore dX7_rightAhead_9 (by decide) <| sn_next rfl
set_option maxRecDepth 100000 in
theorem sX7_rightAhead_1 {G : ab_G} {xs : List Int32} {d : Nat} {cal : ab_F} (hcs : ab_CS G (ab_Z G xs) ab_Mf cal d) : ab_Sd G (ab_Z G xs) (d + 1) (ab_mY mX7_rightAhead pX7_rightAhead) 11 (bX7_rightAhead_1 cal) :=
  sn_iload dX7_rightAhead_11 <| sn_iconst dX7_rightAhead_13 rfl <| sn_iload_n dX7_rightAhead_14 rfl <| sn_imul dX7_rightAhead_15 <| sn_cmp_ge (tg := 84) dX7_rightAhead_16 rfl rfl <| sn_iload dX7_rightAhead_19 <| sn_iconst dX7_rightAhead_21 rfl <| sn_irem dX7_rightAhead_22 <| sn_if_ne (tg := 33) dX7_rightAhead_23 rfl rfl <| sn_aload_n dX7_rightAhead_26 rfl <| sn_getf dX7_rightAhead_27 rfl hinX7 (by decide) w_163 <| sq_callV mt_52 hcs dX7_rightAhead_30 rfl w_606 w_489 w_490 w_56 w_491 hy_52 hm_52 <| sn_next rfl
set_option maxRecDepth 100000 in
theorem sX7_rightAhead_2 {G : ab_G} {xs : List Int32} {d : Nat} {cal : ab_F} (hcs : ab_CS G (ab_Z G xs) ab_Mf cal d) : ab_Sd G (ab_Z G xs) (d + 1) (ab_mY mX7_rightAhead pX7_rightAhead) 33 (bX7_rightAhead_2 cal) :=
  sn_iload dX7_rightAhead_33 <| sn_iconst dX7_rightAhead_35 rfl <| sn_irem dX7_rightAhead_36 <| sn_if_ne (tg := 50) dX7_rightAhead_37 rfl rfl <| sn_aload_n dX7_rightAhead_40 rfl <| sn_getf dX7_rightAhead_41 rfl hinX7 (by decide) w_163 <| sq_callV mt_46 hcs dX7_rightAhead_44 rfl w_616 w_511 w_512 w_56 w_513 hy_46 hm_46 <| sn_goto (tg := 57) dX7_rightAhead_47 rfl rfl
set_option maxRecDepth 100000 in
theorem sX7_rightAhead_3 {G : ab_G} {xs : List Int32} {d : Nat} {cal : ab_F} (hcs : ab_CS G (ab_Z G xs) ab_Mf cal d) : ab_Sd G (ab_Z G xs) (d + 1) (ab_mY mX7_rightAhead pX7_rightAhead) 50 (bX7_rightAhead_3 cal) :=
  sn_aload_n dX7_rightAhead_50 rfl <| sn_getf dX7_rightAhead_51 rfl hinX7 (by decide) w_163 <| sq_callV mt_47 hcs dX7_rightAhead_54 rfl w_971 w_515 w_516 w_56 w_517 hy_47 hm_47 <| sn_next rfl
set_option maxRecDepth 100000 in
theorem sX7_rightAhead_4 {G : ab_G} {xs : List Int32} {d : Nat} {cal : ab_F} (hcs : ab_CS G (ab_Z G xs) ab_Mf cal d) : ab_Sd G (ab_Z G xs) (d + 1) (ab_mY mX7_rightAhead pX7_rightAhead) 57 (bX7_rightAhead_4 cal) :=
  sn_istore dX7_rightAhead_57 (by decide) <| sn_iload dX7_rightAhead_59 <| sn_iload dX7_rightAhead_61 <| sn_cmp_ge (tg := 75) dX7_rightAhead_63 rfl rfl <| sn_aload_n dX7_rightAhead_66 rfl <| sn_iload dX7_rightAhead_67 <| sn_iald dX7_rightAhead_69 rfl <| sn_iload dX7_rightAhead_70 <| sn_cmp_eq (tg := 78) dX7_rightAhead_72 rfl rfl <| sn_next rfl
set_option maxRecDepth 100000 in
theorem sX7_rightAhead_5 {G : ab_G} {xs : List Int32} {d : Nat} {cal : ab_F} (hcs : ab_CS G (ab_Z G xs) ab_Mf cal d) : ab_Sd G (ab_Z G xs) (d + 1) (ab_mY mX7_rightAhead pX7_rightAhead) 75 (bX7_rightAhead_5 cal) :=
  sn_iload dX7_rightAhead_75 <| sn_ret dX7_rightAhead_77 ab_ri_int
set_option maxRecDepth 100000 in
theorem sX7_rightAhead_6 {G : ab_G} {xs : List Int32} {d : Nat} {cal : ab_F} (hcs : ab_CS G (ab_Z G xs) ab_Mf cal d) : ab_Sd G (ab_Z G xs) (d + 1) (ab_mY mX7_rightAhead pX7_rightAhead) 78 (bX7_rightAhead_6 cal) :=
  sn_iinc dX7_rightAhead_78 rfl (by decide) <| sn_goto (tg := 11) dX7_rightAhead_81 rfl rfl
set_option maxRecDepth 100000 in
theorem sX7_rightAhead_7 {G : ab_G} {xs : List Int32} {d : Nat} {cal : ab_F} (hcs : ab_CS G (ab_Z G xs) ab_Mf cal d) : ab_Sd G (ab_Z G xs) (d + 1) (ab_mY mX7_rightAhead pX7_rightAhead) 84 (bX7_rightAhead_7 cal) :=
  sn_iload dX7_rightAhead_84 <| sn_iconst dX7_rightAhead_86 rfl <| sn_iload_n dX7_rightAhead_87 rfl <| sn_imul dX7_rightAhead_88 <| sn_cmp_le (tg := 98) dX7_rightAhead_89 rfl rfl <| sn_iconst dX7_rightAhead_92 rfl <| sn_iload_n dX7_rightAhead_93 rfl <| sn_imul dX7_rightAhead_94 <| sn_goto (tg := 99) dX7_rightAhead_95 rfl rfl
set_option maxRecDepth 100000 in
theorem sX7_rightAhead_8 {G : ab_G} {xs : List Int32} {d : Nat} {cal : ab_F} (hcs : ab_CS G (ab_Z G xs) ab_Mf cal d) : ab_Sd G (ab_Z G xs) (d + 1) (ab_mY mX7_rightAhead pX7_rightAhead) 98 (bX7_rightAhead_8 cal) :=
  sn_iconst dX7_rightAhead_98 rfl <| sn_next rfl
set_option maxRecDepth 100000 in
theorem sX7_rightAhead_9 {G : ab_G} {xs : List Int32} {d : Nat} {cal : ab_F} (hcs : ab_CS G (ab_Z G xs) ab_Mf cal d) : ab_Sd G (ab_Z G xs) (d + 1) (ab_mY mX7_rightAhead pX7_rightAhead) 99 (bX7_rightAhead_9 cal) :=
  sn_ret dX7_rightAhead_99 ab_ri_int
theorem sX7_rightAhead {G : ab_G} {xs : List Int32} {d : Nat} {cal : ab_F} (hcs : ab_CS G (ab_Z G xs) ab_Mf cal d) : ab_BS G (ab_Z G xs) (d + 1) (ab_mY mX7_rightAhead pX7_rightAhead) pX7_rightAhead (bX7_rightAhead cal) := ⟨sX7_rightAhead_0 hcs, sX7_rightAhead_1 hcs, sX7_rightAhead_2 hcs, sX7_rightAhead_3 hcs, sX7_rightAhead_4 hcs, sX7_rightAhead_5 hcs, sX7_rightAhead_6 hcs, sX7_rightAhead_7 hcs, sX7_rightAhead_8 hcs, sX7_rightAhead_9 hcs, trivial⟩
theorem dgX7_bestLaying_0 : decode cX7_bestLaying 0 = .ok (.aload_n 0, 1) ∧ decode cX7_bestLaying 1 = .ok (.getfield 18, 3) ∧ decode cX7_bestLaying 4 = .ok (.ldc 55, 2) ∧ decode cX7_bestLaying 6 = .ok (.invokestatic 56, 3) ∧ decode cX7_bestLaying 9 = .ok (.aload_n 0, 1) ∧ decode cX7_bestLaying 10 = .ok (.getfield 18, 3) ∧ decode cX7_bestLaying 13 = .ok (.iconst 0, 1) ∧ decode cX7_bestLaying 14 = .ok (.iconst 0, 1) ∧ decode cX7_bestLaying 15 = .ok (.iastore, 1) ∧ decode cX7_bestLaying 16 = .ok (.iconst 0, 1) ∧ decode cX7_bestLaying 17 = .ok (.istore 4, 2) ∧ decode cX7_bestLaying 19 = .ok (.iload 4, 2) ∧ decode cX7_bestLaying 21 = .ok (.aload_n 1, 1) ∧ decode cX7_bestLaying 22 = .ok (.getfield 37, 3) ∧ decode cX7_bestLaying 25 = .ok (.if_icmp .ge 40, 3) ∧ decode cX7_bestLaying 28 = .ok (.aload_n 1, 1) := by decide +kernel
theorem dX7_bestLaying_0 : decode cX7_bestLaying 0 = .ok (.aload_n 0, 1) := dgX7_bestLaying_0.1
theorem dX7_bestLaying_1 : decode cX7_bestLaying 1 = .ok (.getfield 18, 3) := dgX7_bestLaying_0.2.1
theorem dX7_bestLaying_4 : decode cX7_bestLaying 4 = .ok (.ldc 55, 2) := dgX7_bestLaying_0.2.2.1
theorem dX7_bestLaying_6 : decode cX7_bestLaying 6 = .ok (.invokestatic 56, 3) := dgX7_bestLaying_0.2.2.2.1
theorem dX7_bestLaying_9 : decode cX7_bestLaying 9 = .ok (.aload_n 0, 1) := dgX7_bestLaying_0.2.2.2.2.1
theorem dX7_bestLaying_10 : decode cX7_bestLaying 10 = .ok (.getfield 18, 3) := dgX7_bestLaying_0.2.2.2.2.2.1
theorem dX7_bestLaying_13 : decode cX7_bestLaying 13 = .ok (.iconst 0, 1) := dgX7_bestLaying_0.2.2.2.2.2.2.1
theorem dX7_bestLaying_14 : decode cX7_bestLaying 14 = .ok (.iconst 0, 1) := dgX7_bestLaying_0.2.2.2.2.2.2.2.1
theorem dX7_bestLaying_15 : decode cX7_bestLaying 15 = .ok (.iastore, 1) := dgX7_bestLaying_0.2.2.2.2.2.2.2.2.1
theorem dX7_bestLaying_16 : decode cX7_bestLaying 16 = .ok (.iconst 0, 1) := dgX7_bestLaying_0.2.2.2.2.2.2.2.2.2.1
theorem dX7_bestLaying_17 : decode cX7_bestLaying 17 = .ok (.istore 4, 2) := dgX7_bestLaying_0.2.2.2.2.2.2.2.2.2.2.1
theorem dX7_bestLaying_19 : decode cX7_bestLaying 19 = .ok (.iload 4, 2) := dgX7_bestLaying_0.2.2.2.2.2.2.2.2.2.2.2.1
theorem dX7_bestLaying_21 : decode cX7_bestLaying 21 = .ok (.aload_n 1, 1) := dgX7_bestLaying_0.2.2.2.2.2.2.2.2.2.2.2.2.1
theorem dX7_bestLaying_22 : decode cX7_bestLaying 22 = .ok (.getfield 37, 3) := dgX7_bestLaying_0.2.2.2.2.2.2.2.2.2.2.2.2.2.1
theorem dX7_bestLaying_25 : decode cX7_bestLaying 25 = .ok (.if_icmp .ge 40, 3) := dgX7_bestLaying_0.2.2.2.2.2.2.2.2.2.2.2.2.2.2.1
theorem dX7_bestLaying_28 : decode cX7_bestLaying 28 = .ok (.aload_n 1, 1) := dgX7_bestLaying_0.2.2.2.2.2.2.2.2.2.2.2.2.2.2.2
theorem dgX7_bestLaying_1 : decode cX7_bestLaying 29 = .ok (.getfield 62, 3) ∧ decode cX7_bestLaying 32 = .ok (.iload 4, 2) ∧ decode cX7_bestLaying 34 = .ok (.iaload, 1) ∧ decode cX7_bestLaying 35 = .ok (.bipush 12, 2) ∧ decode cX7_bestLaying 37 = .ok (.if_icmp .eq 14, 3) ∧ decode cX7_bestLaying 40 = .ok (.aload_n 1, 1) ∧ decode cX7_bestLaying 41 = .ok (.getfield 62, 3) ∧ decode cX7_bestLaying 44 = .ok (.iload 4, 2) ∧ decode cX7_bestLaying 46 = .ok (.iaload, 1) ∧ decode cX7_bestLaying 47 = .ok (.iload_n 2, 1) ∧ decode cX7_bestLaying 48 = .ok (.if_icmp .ge 11, 3) ∧ decode cX7_bestLaying 51 = .ok (.aload_n 0, 1) ∧ decode cX7_bestLaying 52 = .ok (.aload_n 1, 1) ∧ decode cX7_bestLaying 53 = .ok (.iload 4, 2) ∧ decode cX7_bestLaying 55 = .ok (.iload_n 2, 1) ∧ decode cX7_bestLaying 56 = .ok (.invokevirtual 65, 3) := by decide +kernel
theorem dX7_bestLaying_29 : decode cX7_bestLaying 29 = .ok (.getfield 62, 3) := dgX7_bestLaying_1.1
theorem dX7_bestLaying_32 : decode cX7_bestLaying 32 = .ok (.iload 4, 2) := dgX7_bestLaying_1.2.1
theorem dX7_bestLaying_34 : decode cX7_bestLaying 34 = .ok (.iaload, 1) := dgX7_bestLaying_1.2.2.1
theorem dX7_bestLaying_35 : decode cX7_bestLaying 35 = .ok (.bipush 12, 2) := dgX7_bestLaying_1.2.2.2.1
theorem dX7_bestLaying_37 : decode cX7_bestLaying 37 = .ok (.if_icmp .eq 14, 3) := dgX7_bestLaying_1.2.2.2.2.1
theorem dX7_bestLaying_40 : decode cX7_bestLaying 40 = .ok (.aload_n 1, 1) := dgX7_bestLaying_1.2.2.2.2.2.1
theorem dX7_bestLaying_41 : decode cX7_bestLaying 41 = .ok (.getfield 62, 3) := dgX7_bestLaying_1.2.2.2.2.2.2.1
theorem dX7_bestLaying_44 : decode cX7_bestLaying 44 = .ok (.iload 4, 2) := dgX7_bestLaying_1.2.2.2.2.2.2.2.1
theorem dX7_bestLaying_46 : decode cX7_bestLaying 46 = .ok (.iaload, 1) := dgX7_bestLaying_1.2.2.2.2.2.2.2.2.1
theorem dX7_bestLaying_47 : decode cX7_bestLaying 47 = .ok (.iload_n 2, 1) := dgX7_bestLaying_1.2.2.2.2.2.2.2.2.2.1
theorem dX7_bestLaying_48 : decode cX7_bestLaying 48 = .ok (.if_icmp .ge 11, 3) := dgX7_bestLaying_1.2.2.2.2.2.2.2.2.2.2.1
theorem dX7_bestLaying_51 : decode cX7_bestLaying 51 = .ok (.aload_n 0, 1) := dgX7_bestLaying_1.2.2.2.2.2.2.2.2.2.2.2.1
theorem dX7_bestLaying_52 : decode cX7_bestLaying 52 = .ok (.aload_n 1, 1) := dgX7_bestLaying_1.2.2.2.2.2.2.2.2.2.2.2.2.1
theorem dX7_bestLaying_53 : decode cX7_bestLaying 53 = .ok (.iload 4, 2) := dgX7_bestLaying_1.2.2.2.2.2.2.2.2.2.2.2.2.2.1
theorem dX7_bestLaying_55 : decode cX7_bestLaying 55 = .ok (.iload_n 2, 1) := dgX7_bestLaying_1.2.2.2.2.2.2.2.2.2.2.2.2.2.2.1
theorem dX7_bestLaying_56 : decode cX7_bestLaying 56 = .ok (.invokevirtual 65, 3) := dgX7_bestLaying_1.2.2.2.2.2.2.2.2.2.2.2.2.2.2.2
theorem dgX7_bestLaying_2 : decode cX7_bestLaying 59 = .ok (.iinc 4 1, 3) ∧ decode cX7_bestLaying 62 = .ok (.goto (-43), 3) ∧ decode cX7_bestLaying 65 = .ok (.aload_n 0, 1) ∧ decode cX7_bestLaying 66 = .ok (.getfield 18, 3) ∧ decode cX7_bestLaying 69 = .ok (.iconst 1, 1) ∧ decode cX7_bestLaying 70 = .ok (.iload_n 2, 1) ∧ decode cX7_bestLaying 71 = .ok (.ishl, 1) ∧ decode cX7_bestLaying 72 = .ok (.iconst 1, 1) ∧ decode cX7_bestLaying 73 = .ok (.isub, 1) ∧ decode cX7_bestLaying 74 = .ok (.iaload, 1) ∧ decode cX7_bestLaying 75 = .ok (.istore 4, 2) ∧ decode cX7_bestLaying 77 = .ok (.iload 4, 2) ∧ decode cX7_bestLaying 79 = .ok (.ldc 55, 2) ∧ decode cX7_bestLaying 81 = .ok (.if_icmp .lt 6, 3) ∧ decode cX7_bestLaying 84 = .ok (.ldc 44, 2) ∧ decode cX7_bestLaying 86 = .ok (.ireturn, 1) := by decide +kernel
theorem dX7_bestLaying_59 : decode cX7_bestLaying 59 = .ok (.iinc 4 1, 3) := dgX7_bestLaying_2.1
theorem dX7_bestLaying_62 : decode cX7_bestLaying 62 = .ok (.goto (-43), 3) := dgX7_bestLaying_2.2.1
theorem dX7_bestLaying_65 : decode cX7_bestLaying 65 = .ok (.aload_n 0, 1) := dgX7_bestLaying_2.2.2.1
theorem dX7_bestLaying_66 : decode cX7_bestLaying 66 = .ok (.getfield 18, 3) := dgX7_bestLaying_2.2.2.2.1
theorem dX7_bestLaying_69 : decode cX7_bestLaying 69 = .ok (.iconst 1, 1) := dgX7_bestLaying_2.2.2.2.2.1
theorem dX7_bestLaying_70 : decode cX7_bestLaying 70 = .ok (.iload_n 2, 1) := dgX7_bestLaying_2.2.2.2.2.2.1
theorem dX7_bestLaying_71 : decode cX7_bestLaying 71 = .ok (.ishl, 1) := dgX7_bestLaying_2.2.2.2.2.2.2.1
theorem dX7_bestLaying_72 : decode cX7_bestLaying 72 = .ok (.iconst 1, 1) := dgX7_bestLaying_2.2.2.2.2.2.2.2.1
theorem dX7_bestLaying_73 : decode cX7_bestLaying 73 = .ok (.isub, 1) := dgX7_bestLaying_2.2.2.2.2.2.2.2.2.1
theorem dX7_bestLaying_74 : decode cX7_bestLaying 74 = .ok (.iaload, 1) := dgX7_bestLaying_2.2.2.2.2.2.2.2.2.2.1
theorem dX7_bestLaying_75 : decode cX7_bestLaying 75 = .ok (.istore 4, 2) := dgX7_bestLaying_2.2.2.2.2.2.2.2.2.2.2.1
theorem dX7_bestLaying_77 : decode cX7_bestLaying 77 = .ok (.iload 4, 2) := dgX7_bestLaying_2.2.2.2.2.2.2.2.2.2.2.2.1
theorem dX7_bestLaying_79 : decode cX7_bestLaying 79 = .ok (.ldc 55, 2) := dgX7_bestLaying_2.2.2.2.2.2.2.2.2.2.2.2.2.1
theorem dX7_bestLaying_81 : decode cX7_bestLaying 81 = .ok (.if_icmp .lt 6, 3) := dgX7_bestLaying_2.2.2.2.2.2.2.2.2.2.2.2.2.2.1
theorem dX7_bestLaying_84 : decode cX7_bestLaying 84 = .ok (.ldc 44, 2) := dgX7_bestLaying_2.2.2.2.2.2.2.2.2.2.2.2.2.2.2.1
theorem dX7_bestLaying_86 : decode cX7_bestLaying 86 = .ok (.ireturn, 1) := dgX7_bestLaying_2.2.2.2.2.2.2.2.2.2.2.2.2.2.2.2
theorem dgX7_bestLaying_3 : decode cX7_bestLaying 87 = .ok (.iload_n 3, 1) ∧ decode cX7_bestLaying 88 = .ok (.ifCond .ne 11, 3) ∧ decode cX7_bestLaying 91 = .ok (.iload 4, 2) ∧ decode cX7_bestLaying 93 = .ok (.bipush 16, 2) ∧ decode cX7_bestLaying 95 = .ok (.idiv, 1) ∧ decode cX7_bestLaying 96 = .ok (.goto 8, 3) ∧ decode cX7_bestLaying 99 = .ok (.iload 4, 2) ∧ decode cX7_bestLaying 101 = .ok (.bipush 16, 2) ∧ decode cX7_bestLaying 103 = .ok (.irem, 1) ∧ decode cX7_bestLaying 104 = .ok (.ireturn, 1) := by decide +kernel
theorem dX7_bestLaying_87 : decode cX7_bestLaying 87 = .ok (.iload_n 3, 1) := dgX7_bestLaying_3.1
theorem dX7_bestLaying_88 : decode cX7_bestLaying 88 = .ok (.ifCond .ne 11, 3) := dgX7_bestLaying_3.2.1
theorem dX7_bestLaying_91 : decode cX7_bestLaying 91 = .ok (.iload 4, 2) := dgX7_bestLaying_3.2.2.1
theorem dX7_bestLaying_93 : decode cX7_bestLaying 93 = .ok (.bipush 16, 2) := dgX7_bestLaying_3.2.2.2.1
theorem dX7_bestLaying_95 : decode cX7_bestLaying 95 = .ok (.idiv, 1) := dgX7_bestLaying_3.2.2.2.2.1
theorem dX7_bestLaying_96 : decode cX7_bestLaying 96 = .ok (.goto 8, 3) := dgX7_bestLaying_3.2.2.2.2.2.1
theorem dX7_bestLaying_99 : decode cX7_bestLaying 99 = .ok (.iload 4, 2) := dgX7_bestLaying_3.2.2.2.2.2.2.1
theorem dX7_bestLaying_101 : decode cX7_bestLaying 101 = .ok (.bipush 16, 2) := dgX7_bestLaying_3.2.2.2.2.2.2.2.1
theorem dX7_bestLaying_103 : decode cX7_bestLaying 103 = .ok (.irem, 1) := dgX7_bestLaying_3.2.2.2.2.2.2.2.2.1
theorem dX7_bestLaying_104 : decode cX7_bestLaying 104 = .ok (.ireturn, 1) := dgX7_bestLaying_3.2.2.2.2.2.2.2.2.2
abbrev pX7_bestLaying : List Nat := [0, 19, 51, 59, 65, 87, 99, 104]
def bX7_bestLaying_0 (cal : ab_F) : ab_K := o_aload 0 <| o_getf 6 1 <| o_push (.int 16777216) <| o_callS cal 250 2 <| o_aload 0 <| o_getf 6 1 <| o_push (.int 0) <| o_push (.int 0) <| o_iast 0 (fun x => x) <| o_push (.int 0) <| o_istore 4 <| o_goto 1
def bX7_bestLaying_1 (cal : ab_F) : ab_K := o_iload 4 <| o_aload 1 <| o_getf 3 10 <| o_cmp (fun x y => decide (y ≤ x)) 4 <| o_aload 1 <| o_getf 3 3 <| o_iload 4 <| o_iald 0 <| o_push (.int 12) <| o_cmp (fun x y => decide (x = y)) 2 <| o_aload 1 <| o_getf 3 3 <| o_iload 4 <| o_iald 0 <| o_iload 2 <| o_cmp (fun x y => decide (y ≤ x)) 3 <| o_goto 2
def bX7_bestLaying_2 (cal : ab_F) : ab_K := o_aload 0 <| o_aload 1 <| o_iload 4 <| o_iload 2 <| o_callV cal 73 3 6 <| o_goto 3
def bX7_bestLaying_3 (cal : ab_F) : ab_K := o_iinc 4 1 <| o_goto 1
def bX7_bestLaying_4 (cal : ab_F) : ab_K := o_aload 0 <| o_getf 6 1 <| o_push (.int 1) <| o_iload 2 <| o_bin (fun x y => x <<< (y &&& 31)) <| o_push (.int 1) <| o_bin (fun x y => x - y) <| o_iald 0 <| o_istore 4 <| o_iload 4 <| o_push (.int 16777216) <| o_cmp (fun x y => decide (x < y)) 5 <| o_push (.int (-1000000005)) <| o_ret (some .int)
def bX7_bestLaying_5 (cal : ab_F) : ab_K := o_iload 3 <| o_if (fun x => decide (¬ x = 0)) 6 <| o_iload 4 <| o_push (.int 16) <| o_div (fun x y => x / y) <| o_goto 7
def bX7_bestLaying_6 (cal : ab_F) : ab_K := o_iload 4 <| o_push (.int 16) <| o_div (fun x y => x - x / y * y) <| o_goto 7
def bX7_bestLaying_7 (cal : ab_F) : ab_K := o_ret (some .int)
def bX7_bestLaying (cal : ab_F) : List ab_K := [bX7_bestLaying_0 cal, bX7_bestLaying_1 cal, bX7_bestLaying_2 cal, bX7_bestLaying_3 cal, bX7_bestLaying_4 cal, bX7_bestLaying_5 cal, bX7_bestLaying_6 cal, bX7_bestLaying_7 cal]
set_option maxRecDepth 100000 in
theorem sX7_bestLaying_0 {G : ab_G} {xs : List Int32} {d : Nat} {cal : ab_F} (hcs : ab_CS G (ab_Z G xs) ab_Mf cal d) : ab_Sd G (ab_Z G xs) (d + 1) (ab_mY mX7_bestLaying pX7_bestLaying) 0 (bX7_bestLaying_0 cal) :=
  sn_aload_n dX7_bestLaying_0 rfl <| sn_getf dX7_bestLaying_1 rfl hinX7 (by decide) w_164 <| sn_ldc dX7_bestLaying_4 w_543 <| sq_callS mt_250 hcs dX7_bestLaying_6 w_544 w_91 w_57 w_92 hy_250 hm_250 <| sn_aload_n dX7_bestLaying_9 rfl <| sn_getf dX7_bestLaying_10 rfl hinX7 (by decide) w_164 <| sn_iconst dX7_bestLaying_13 rfl <| sn_iconst dX7_bestLaying_14 rfl <| sn_iast dX7_bestLaying_15 rfl rfl <| sn_iconst dX7_bestLaying_16 rfl <| sn_istore dX7_bestLaying_17 (by decide) <| sn_next rfl
set_option maxRecDepth 100000 in
theorem sX7_bestLaying_1 {G : ab_G} {xs : List Int32} {d : Nat} {cal : ab_F} (hcs : ab_CS G (ab_Z G xs) ab_Mf cal d) : ab_Sd G (ab_Z G xs) (d + 1) (ab_mY mX7_bestLaying pX7_bestLaying) 19 (bX7_bestLaying_1 cal) :=
  sn_iload dX7_bestLaying_19 <| sn_aload_n dX7_bestLaying_21 rfl <| sn_getf dX7_bestLaying_22 rfl hinX4 (by decide) w_114 <| sn_cmp_ge (tg := 65) dX7_bestLaying_25 rfl rfl <| sn_aload_n dX7_bestLaying_28 rfl <| sn_getf dX7_bestLaying_29 rfl hinX4 (by decide) w_101 <| sn_iload dX7_bestLaying_32 <| sn_iald dX7_bestLaying_34 rfl <| sn_bipush dX7_bestLaying_35 rfl <| sn_cmp_eq (tg := 51) dX7_bestLaying_37 rfl rfl <| sn_aload_n dX7_bestLaying_40 rfl <| sn_getf dX7_bestLaying_41 rfl hinX4 (by decide) w_101 <| sn_iload dX7_bestLaying_44 <| sn_iald dX7_bestLaying_46 rfl <| sn_iload_n dX7_bestLaying_47 rfl <| sn_cmp_ge (tg := 59) dX7_bestLaying_48 rfl rfl <| sn_next rfl
set_option maxRecDepth 100000 in
theorem sX7_bestLaying_2 {G : ab_G} {xs : List Int32} {d : Nat} {cal : ab_F} (hcs : ab_CS G (ab_Z G xs) ab_Mf cal d) : ab_Sd G (ab_Z G xs) (d + 1) (ab_mY mX7_bestLaying pX7_bestLaying) 51 (bX7_bestLaying_2 cal) :=
  sn_aload_n dX7_bestLaying_51 rfl <| sn_aload_n dX7_bestLaying_52 rfl <| sn_iload dX7_bestLaying_53 <| sn_iload_n dX7_bestLaying_55 rfl <| sq_callV mt_73 hcs dX7_bestLaying_56 rfl w_545 w_547 w_1 w_58 w_548 hy_73 hm_73 <| sn_next rfl
set_option maxRecDepth 100000 in
theorem sX7_bestLaying_3 {G : ab_G} {xs : List Int32} {d : Nat} {cal : ab_F} (hcs : ab_CS G (ab_Z G xs) ab_Mf cal d) : ab_Sd G (ab_Z G xs) (d + 1) (ab_mY mX7_bestLaying pX7_bestLaying) 59 (bX7_bestLaying_3 cal) :=
  sn_iinc dX7_bestLaying_59 rfl (by decide) <| sn_goto (tg := 19) dX7_bestLaying_62 rfl rfl
set_option maxRecDepth 100000 in
theorem sX7_bestLaying_4 {G : ab_G} {xs : List Int32} {d : Nat} {cal : ab_F} (hcs : ab_CS G (ab_Z G xs) ab_Mf cal d) : ab_Sd G (ab_Z G xs) (d + 1) (ab_mY mX7_bestLaying pX7_bestLaying) 65 (bX7_bestLaying_4 cal) :=
  sn_aload_n dX7_bestLaying_65 rfl <| sn_getf dX7_bestLaying_66 rfl hinX7 (by decide) w_164 <| sn_iconst dX7_bestLaying_69 rfl <| sn_iload_n dX7_bestLaying_70 rfl <| sn_ishl dX7_bestLaying_71 <| sn_iconst dX7_bestLaying_72 rfl <| sn_isub dX7_bestLaying_73 <| sn_iald dX7_bestLaying_74 rfl <| sn_istore dX7_bestLaying_75 (by decide) <| sn_iload dX7_bestLaying_77 <| sn_ldc dX7_bestLaying_79 w_543 <| sn_cmp_lt (tg := 87) dX7_bestLaying_81 rfl rfl <| sn_ldc dX7_bestLaying_84 w_555 <| sn_ret dX7_bestLaying_86 ab_ri_int
set_option maxRecDepth 100000 in
theorem sX7_bestLaying_5 {G : ab_G} {xs : List Int32} {d : Nat} {cal : ab_F} (hcs : ab_CS G (ab_Z G xs) ab_Mf cal d) : ab_Sd G (ab_Z G xs) (d + 1) (ab_mY mX7_bestLaying pX7_bestLaying) 87 (bX7_bestLaying_5 cal) :=
  sn_iload_n dX7_bestLaying_87 rfl <| sn_if_ne (tg := 99) dX7_bestLaying_88 rfl rfl <| sn_iload dX7_bestLaying_91 <| sn_bipush dX7_bestLaying_93 rfl <| sn_idiv dX7_bestLaying_95 <| sn_goto (tg := 104) dX7_bestLaying_96 rfl rfl
set_option maxRecDepth 100000 in
theorem sX7_bestLaying_6 {G : ab_G} {xs : List Int32} {d : Nat} {cal : ab_F} (hcs : ab_CS G (ab_Z G xs) ab_Mf cal d) : ab_Sd G (ab_Z G xs) (d + 1) (ab_mY mX7_bestLaying pX7_bestLaying) 99 (bX7_bestLaying_6 cal) :=
  sn_iload dX7_bestLaying_99 <| sn_bipush dX7_bestLaying_101 rfl <| sn_irem dX7_bestLaying_103 <| sn_next rfl
set_option maxRecDepth 100000 in
theorem sX7_bestLaying_7 {G : ab_G} {xs : List Int32} {d : Nat} {cal : ab_F} (hcs : ab_CS G (ab_Z G xs) ab_Mf cal d) : ab_Sd G (ab_Z G xs) (d + 1) (ab_mY mX7_bestLaying pX7_bestLaying) 104 (bX7_bestLaying_7 cal) :=
  sn_ret dX7_bestLaying_104 ab_ri_int
theorem sX7_bestLaying {G : ab_G} {xs : List Int32} {d : Nat} {cal : ab_F} (hcs : ab_CS G (ab_Z G xs) ab_Mf cal d) : ab_BS G (ab_Z G xs) (d + 1) (ab_mY mX7_bestLaying pX7_bestLaying) pX7_bestLaying (bX7_bestLaying cal) := ⟨sX7_bestLaying_0 hcs, sX7_bestLaying_1 hcs, sX7_bestLaying_2 hcs, sX7_bestLaying_3 hcs, sX7_bestLaying_4 hcs, sX7_bestLaying_5 hcs, sX7_bestLaying_6 hcs, sX7_bestLaying_7 hcs, trivial⟩
theorem dgX7_offerStone_0 : decode cX7_offerStone 0 = .ok (.iconst 0, 1) ∧ decode cX7_offerStone 1 = .ok (.istore 4, 2) ∧ decode cX7_offerStone 3 = .ok (.iload 4, 2) ∧ decode cX7_offerStone 5 = .ok (.iload_n 3, 1) ∧ decode cX7_offerStone 6 = .ok (.if_icmp .ge 37, 3) ∧ decode cX7_offerStone 9 = .ok (.aload_n 0, 1) ∧ decode cX7_offerStone 10 = .ok (.getfield 22, 3) ∧ decode cX7_offerStone 13 = .ok (.iload 4, 2) ∧ decode cX7_offerStone 15 = .ok (.bipush 16, 2) ∧ decode cX7_offerStone 17 = .ok (.aload_n 1, 1) ∧ decode cX7_offerStone 18 = .ok (.iload_n 2, 1) ∧ decode cX7_offerStone 19 = .ok (.iload 4, 2) ∧ decode cX7_offerStone 21 = .ok (.invokevirtual 69, 3) ∧ decode cX7_offerStone 24 = .ok (.imul, 1) ∧ decode cX7_offerStone 25 = .ok (.iload 4, 2) ∧ decode cX7_offerStone 27 = .ok (.ifCond .ne 7, 3) := by decide +kernel
theorem dX7_offerStone_0 : decode cX7_offerStone 0 = .ok (.iconst 0, 1) := dgX7_offerStone_0.1
theorem dX7_offerStone_1 : decode cX7_offerStone 1 = .ok (.istore 4, 2) := dgX7_offerStone_0.2.1
theorem dX7_offerStone_3 : decode cX7_offerStone 3 = .ok (.iload 4, 2) := dgX7_offerStone_0.2.2.1
theorem dX7_offerStone_5 : decode cX7_offerStone 5 = .ok (.iload_n 3, 1) := dgX7_offerStone_0.2.2.2.1
theorem dX7_offerStone_6 : decode cX7_offerStone 6 = .ok (.if_icmp .ge 37, 3) := dgX7_offerStone_0.2.2.2.2.1
theorem dX7_offerStone_9 : decode cX7_offerStone 9 = .ok (.aload_n 0, 1) := dgX7_offerStone_0.2.2.2.2.2.1
theorem dX7_offerStone_10 : decode cX7_offerStone 10 = .ok (.getfield 22, 3) := dgX7_offerStone_0.2.2.2.2.2.2.1
theorem dX7_offerStone_13 : decode cX7_offerStone 13 = .ok (.iload 4, 2) := dgX7_offerStone_0.2.2.2.2.2.2.2.1
theorem dX7_offerStone_15 : decode cX7_offerStone 15 = .ok (.bipush 16, 2) := dgX7_offerStone_0.2.2.2.2.2.2.2.2.1
theorem dX7_offerStone_17 : decode cX7_offerStone 17 = .ok (.aload_n 1, 1) := dgX7_offerStone_0.2.2.2.2.2.2.2.2.2.1
theorem dX7_offerStone_18 : decode cX7_offerStone 18 = .ok (.iload_n 2, 1) := dgX7_offerStone_0.2.2.2.2.2.2.2.2.2.2.1
theorem dX7_offerStone_19 : decode cX7_offerStone 19 = .ok (.iload 4, 2) := dgX7_offerStone_0.2.2.2.2.2.2.2.2.2.2.2.1
theorem dX7_offerStone_21 : decode cX7_offerStone 21 = .ok (.invokevirtual 69, 3) := dgX7_offerStone_0.2.2.2.2.2.2.2.2.2.2.2.2.1
theorem dX7_offerStone_24 : decode cX7_offerStone 24 = .ok (.imul, 1) := dgX7_offerStone_0.2.2.2.2.2.2.2.2.2.2.2.2.2.1
theorem dX7_offerStone_25 : decode cX7_offerStone 25 = .ok (.iload 4, 2) := dgX7_offerStone_0.2.2.2.2.2.2.2.2.2.2.2.2.2.2.1
theorem dX7_offerStone_27 : decode cX7_offerStone 27 = .ok (.ifCond .ne 7, 3) := dgX7_offerStone_0.2.2.2.2.2.2.2.2.2.2.2.2.2.2.2
theorem dgX7_offerStone_1 : decode cX7_offerStone 30 = .ok (.iload_n 2, 1) ∧ decode cX7_offerStone 31 = .ok (.goto 4, 3) ∧ decode cX7_offerStone 34 = .ok (.iconst 0, 1) ∧ decode cX7_offerStone 35 = .ok (.iadd, 1) ∧ decode cX7_offerStone 36 = .ok (.iastore, 1) ∧ decode cX7_offerStone 37 = .ok (.iinc 4 1, 3) ∧ decode cX7_offerStone 40 = .ok (.goto (-37), 3) ∧ decode cX7_offerStone 43 = .ok (.iconst 1, 1) ∧ decode cX7_offerStone 44 = .ok (.iload_n 3, 1) ∧ decode cX7_offerStone 45 = .ok (.ishl, 1) ∧ decode cX7_offerStone 46 = .ok (.iconst 1, 1) ∧ decode cX7_offerStone 47 = .ok (.isub, 1) ∧ decode cX7_offerStone 48 = .ok (.istore 4, 2) ∧ decode cX7_offerStone 50 = .ok (.iload 4, 2) ∧ decode cX7_offerStone 52 = .ok (.ifCond .le 71, 3) ∧ decode cX7_offerStone 55 = .ok (.iconst 0, 1) := by decide +kernel
theorem dX7_offerStone_30 : decode cX7_offerStone 30 = .ok (.iload_n 2, 1) := dgX7_offerStone_1.1
theorem dX7_offerStone_31 : decode cX7_offerStone 31 = .ok (.goto 4, 3) := dgX7_offerStone_1.2.1
theorem dX7_offerStone_34 : decode cX7_offerStone 34 = .ok (.iconst 0, 1) := dgX7_offerStone_1.2.2.1
theorem dX7_offerStone_35 : decode cX7_offerStone 35 = .ok (.iadd, 1) := dgX7_offerStone_1.2.2.2.1
theorem dX7_offerStone_36 : decode cX7_offerStone 36 = .ok (.iastore, 1) := dgX7_offerStone_1.2.2.2.2.1
theorem dX7_offerStone_37 : decode cX7_offerStone 37 = .ok (.iinc 4 1, 3) := dgX7_offerStone_1.2.2.2.2.2.1
theorem dX7_offerStone_40 : decode cX7_offerStone 40 = .ok (.goto (-37), 3) := dgX7_offerStone_1.2.2.2.2.2.2.1
theorem dX7_offerStone_43 : decode cX7_offerStone 43 = .ok (.iconst 1, 1) := dgX7_offerStone_1.2.2.2.2.2.2.2.1
theorem dX7_offerStone_44 : decode cX7_offerStone 44 = .ok (.iload_n 3, 1) := dgX7_offerStone_1.2.2.2.2.2.2.2.2.1
theorem dX7_offerStone_45 : decode cX7_offerStone 45 = .ok (.ishl, 1) := dgX7_offerStone_1.2.2.2.2.2.2.2.2.2.1
theorem dX7_offerStone_46 : decode cX7_offerStone 46 = .ok (.iconst 1, 1) := dgX7_offerStone_1.2.2.2.2.2.2.2.2.2.2.1
theorem dX7_offerStone_47 : decode cX7_offerStone 47 = .ok (.isub, 1) := dgX7_offerStone_1.2.2.2.2.2.2.2.2.2.2.2.1
theorem dX7_offerStone_48 : decode cX7_offerStone 48 = .ok (.istore 4, 2) := dgX7_offerStone_1.2.2.2.2.2.2.2.2.2.2.2.2.1
theorem dX7_offerStone_50 : decode cX7_offerStone 50 = .ok (.iload 4, 2) := dgX7_offerStone_1.2.2.2.2.2.2.2.2.2.2.2.2.2.1
theorem dX7_offerStone_52 : decode cX7_offerStone 52 = .ok (.ifCond .le 71, 3) := dgX7_offerStone_1.2.2.2.2.2.2.2.2.2.2.2.2.2.2.1
theorem dX7_offerStone_55 : decode cX7_offerStone 55 = .ok (.iconst 0, 1) := dgX7_offerStone_1.2.2.2.2.2.2.2.2.2.2.2.2.2.2.2
theorem dgX7_offerStone_2 : decode cX7_offerStone 56 = .ok (.istore 5, 2) ∧ decode cX7_offerStone 58 = .ok (.iload 5, 2) ∧ decode cX7_offerStone 60 = .ok (.iload_n 3, 1) ∧ decode cX7_offerStone 61 = .ok (.if_icmp .ge 56, 3) ∧ decode cX7_offerStone 64 = .ok (.iload 4, 2) ∧ decode cX7_offerStone 66 = .ok (.iload 5, 2) ∧ decode cX7_offerStone 68 = .ok (.ishr, 1) ∧ decode cX7_offerStone 69 = .ok (.iconst 1, 1) ∧ decode cX7_offerStone 70 = .ok (.iand, 1) ∧ decode cX7_offerStone 71 = .ok (.ifCond .eq 40, 3) ∧ decode cX7_offerStone 74 = .ok (.aload_n 0, 1) ∧ decode cX7_offerStone 75 = .ok (.getfield 18, 3) ∧ decode cX7_offerStone 78 = .ok (.iload 4, 2) ∧ decode cX7_offerStone 80 = .ok (.aload_n 0, 1) ∧ decode cX7_offerStone 81 = .ok (.getfield 18, 3) ∧ decode cX7_offerStone 84 = .ok (.iload 4, 2) := by decide +kernel
theorem dX7_offerStone_56 : decode cX7_offerStone 56 = .ok (.istore 5, 2) := dgX7_offerStone_2.1
theorem dX7_offerStone_58 : decode cX7_offerStone 58 = .ok (.iload 5, 2) := dgX7_offerStone_2.2.1
theorem dX7_offerStone_60 : decode cX7_offerStone 60 = .ok (.iload_n 3, 1) := dgX7_offerStone_2.2.2.1
theorem dX7_offerStone_61 : decode cX7_offerStone 61 = .ok (.if_icmp .ge 56, 3) := dgX7_offerStone_2.2.2.2.1
theorem dX7_offerStone_64 : decode cX7_offerStone 64 = .ok (.iload 4, 2) := dgX7_offerStone_2.2.2.2.2.1
theorem dX7_offerStone_66 : decode cX7_offerStone 66 = .ok (.iload 5, 2) := dgX7_offerStone_2.2.2.2.2.2.1
theorem dX7_offerStone_68 : decode cX7_offerStone 68 = .ok (.ishr, 1) := dgX7_offerStone_2.2.2.2.2.2.2.1
theorem dX7_offerStone_69 : decode cX7_offerStone 69 = .ok (.iconst 1, 1) := dgX7_offerStone_2.2.2.2.2.2.2.2.1
theorem dX7_offerStone_70 : decode cX7_offerStone 70 = .ok (.iand, 1) := dgX7_offerStone_2.2.2.2.2.2.2.2.2.1
theorem dX7_offerStone_71 : decode cX7_offerStone 71 = .ok (.ifCond .eq 40, 3) := dgX7_offerStone_2.2.2.2.2.2.2.2.2.2.1
theorem dX7_offerStone_74 : decode cX7_offerStone 74 = .ok (.aload_n 0, 1) := dgX7_offerStone_2.2.2.2.2.2.2.2.2.2.2.1
theorem dX7_offerStone_75 : decode cX7_offerStone 75 = .ok (.getfield 18, 3) := dgX7_offerStone_2.2.2.2.2.2.2.2.2.2.2.2.1
theorem dX7_offerStone_78 : decode cX7_offerStone 78 = .ok (.iload 4, 2) := dgX7_offerStone_2.2.2.2.2.2.2.2.2.2.2.2.2.1
theorem dX7_offerStone_80 : decode cX7_offerStone 80 = .ok (.aload_n 0, 1) := dgX7_offerStone_2.2.2.2.2.2.2.2.2.2.2.2.2.2.1
theorem dX7_offerStone_81 : decode cX7_offerStone 81 = .ok (.getfield 18, 3) := dgX7_offerStone_2.2.2.2.2.2.2.2.2.2.2.2.2.2.2.1
theorem dX7_offerStone_84 : decode cX7_offerStone 84 = .ok (.iload 4, 2) := dgX7_offerStone_2.2.2.2.2.2.2.2.2.2.2.2.2.2.2.2
theorem dgX7_offerStone_3 : decode cX7_offerStone 86 = .ok (.iaload, 1) ∧ decode cX7_offerStone 87 = .ok (.aload_n 0, 1) ∧ decode cX7_offerStone 88 = .ok (.getfield 18, 3) ∧ decode cX7_offerStone 91 = .ok (.iload 4, 2) ∧ decode cX7_offerStone 93 = .ok (.iconst 1, 1) ∧ decode cX7_offerStone 94 = .ok (.iload 5, 2) ∧ decode cX7_offerStone 96 = .ok (.ishl, 1) ∧ decode cX7_offerStone 97 = .ok (.isub, 1) ∧ decode cX7_offerStone 98 = .ok (.iaload, 1) ∧ decode cX7_offerStone 99 = .ok (.aload_n 0, 1) ∧ decode cX7_offerStone 100 = .ok (.getfield 22, 3) ∧ decode cX7_offerStone 103 = .ok (.iload 5, 2) ∧ decode cX7_offerStone 105 = .ok (.iaload, 1) ∧ decode cX7_offerStone 106 = .ok (.iadd, 1) ∧ decode cX7_offerStone 107 = .ok (.invokestatic 73, 3) ∧ decode cX7_offerStone 110 = .ok (.iastore, 1) := by decide +kernel
theorem dX7_offerStone_86 : decode cX7_offerStone 86 = .ok (.iaload, 1) := dgX7_offerStone_3.1
theorem dX7_offerStone_87 : decode cX7_offerStone 87 = .ok (.aload_n 0, 1) := dgX7_offerStone_3.2.1
theorem dX7_offerStone_88 : decode cX7_offerStone 88 = .ok (.getfield 18, 3) := dgX7_offerStone_3.2.2.1
theorem dX7_offerStone_91 : decode cX7_offerStone 91 = .ok (.iload 4, 2) := dgX7_offerStone_3.2.2.2.1
theorem dX7_offerStone_93 : decode cX7_offerStone 93 = .ok (.iconst 1, 1) := dgX7_offerStone_3.2.2.2.2.1
theorem dX7_offerStone_94 : decode cX7_offerStone 94 = .ok (.iload 5, 2) := dgX7_offerStone_3.2.2.2.2.2.1
theorem dX7_offerStone_96 : decode cX7_offerStone 96 = .ok (.ishl, 1) := dgX7_offerStone_3.2.2.2.2.2.2.1
theorem dX7_offerStone_97 : decode cX7_offerStone 97 = .ok (.isub, 1) := dgX7_offerStone_3.2.2.2.2.2.2.2.1
theorem dX7_offerStone_98 : decode cX7_offerStone 98 = .ok (.iaload, 1) := dgX7_offerStone_3.2.2.2.2.2.2.2.2.1
theorem dX7_offerStone_99 : decode cX7_offerStone 99 = .ok (.aload_n 0, 1) := dgX7_offerStone_3.2.2.2.2.2.2.2.2.2.1
theorem dX7_offerStone_100 : decode cX7_offerStone 100 = .ok (.getfield 22, 3) := dgX7_offerStone_3.2.2.2.2.2.2.2.2.2.2.1
theorem dX7_offerStone_103 : decode cX7_offerStone 103 = .ok (.iload 5, 2) := dgX7_offerStone_3.2.2.2.2.2.2.2.2.2.2.2.1
theorem dX7_offerStone_105 : decode cX7_offerStone 105 = .ok (.iaload, 1) := dgX7_offerStone_3.2.2.2.2.2.2.2.2.2.2.2.2.1
theorem dX7_offerStone_106 : decode cX7_offerStone 106 = .ok (.iadd, 1) := dgX7_offerStone_3.2.2.2.2.2.2.2.2.2.2.2.2.2.1
theorem dX7_offerStone_107 : decode cX7_offerStone 107 = .ok (.invokestatic 73, 3) := dgX7_offerStone_3.2.2.2.2.2.2.2.2.2.2.2.2.2.2.1
theorem dX7_offerStone_110 : decode cX7_offerStone 110 = .ok (.iastore, 1) := dgX7_offerStone_3.2.2.2.2.2.2.2.2.2.2.2.2.2.2.2
theorem dgX7_offerStone_4 : decode cX7_offerStone 111 = .ok (.iinc 5 1, 3) ∧ decode cX7_offerStone 114 = .ok (.goto (-56), 3) ∧ decode cX7_offerStone 117 = .ok (.iinc 4 (-1), 3) ∧ decode cX7_offerStone 120 = .ok (.goto (-70), 3) ∧ decode cX7_offerStone 123 = .ok (.return_, 1) := by decide +kernel
theorem dX7_offerStone_111 : decode cX7_offerStone 111 = .ok (.iinc 5 1, 3) := dgX7_offerStone_4.1
theorem dX7_offerStone_114 : decode cX7_offerStone 114 = .ok (.goto (-56), 3) := dgX7_offerStone_4.2.1
theorem dX7_offerStone_117 : decode cX7_offerStone 117 = .ok (.iinc 4 (-1), 3) := dgX7_offerStone_4.2.2.1
theorem dX7_offerStone_120 : decode cX7_offerStone 120 = .ok (.goto (-70), 3) := dgX7_offerStone_4.2.2.2.1
theorem dX7_offerStone_123 : decode cX7_offerStone 123 = .ok (.return_, 1) := dgX7_offerStone_4.2.2.2.2
abbrev pX7_offerStone : List Nat := [0, 3, 34, 35, 43, 50, 58, 111, 117, 123]
def bX7_offerStone_0 (cal : ab_F) : ab_K := o_push (.int 0) <| o_istore 4 <| o_goto 1
def bX7_offerStone_1 (cal : ab_F) : ab_K := o_iload 4 <| o_iload 3 <| o_cmp (fun x y => decide (y ≤ x)) 4 <| o_aload 0 <| o_getf 6 2 <| o_iload 4 <| o_push (.int 16) <| o_aload 1 <| o_iload 2 <| o_iload 4 <| o_callV cal 43 2 3 <| o_bin (fun x y => x * y) <| o_iload 4 <| o_if (fun x => decide (¬ x = 0)) 2 <| o_iload 2 <| o_goto 3
def bX7_offerStone_2 (cal : ab_F) : ab_K := o_push (.int 0) <| o_goto 3
def bX7_offerStone_3 (cal : ab_F) : ab_K := o_bin (fun x y => x + y) <| o_iast 0 (fun x => x) <| o_iinc 4 1 <| o_goto 1
def bX7_offerStone_4 (cal : ab_F) : ab_K := o_push (.int 1) <| o_iload 3 <| o_bin (fun x y => x <<< (y &&& 31)) <| o_push (.int 1) <| o_bin (fun x y => x - y) <| o_istore 4 <| o_goto 5
def bX7_offerStone_5 (cal : ab_F) : ab_K := o_iload 4 <| o_if (fun x => decide (x ≤ 0)) 9 <| o_push (.int 0) <| o_istore 5 <| o_goto 6
def bX7_offerStone_6 (cal : ab_F) : ab_K := o_iload 5 <| o_iload 3 <| o_cmp (fun x y => decide (y ≤ x)) 8 <| o_iload 4 <| o_iload 5 <| o_bin (fun x y => x >>> (y &&& 31)) <| o_push (.int 1) <| o_bin (fun x y => x &&& y) <| o_if (fun x => decide (x = 0)) 7 <| o_aload 0 <| o_getf 6 1 <| o_iload 4 <| o_aload 0 <| o_getf 6 1 <| o_iload 4 <| o_iald 0 <| o_aload 0 <| o_getf 6 1 <| o_iload 4 <| o_push (.int 1) <| o_iload 5 <| o_bin (fun x y => x <<< (y &&& 31)) <| o_bin (fun x y => x - y) <| o_iald 0 <| o_aload 0 <| o_getf 6 2 <| o_iload 5 <| o_iald 0 <| o_bin (fun x y => x + y) <| o_m2 (fun x y => if y < x then y else x) <| o_iast 0 (fun x => x) <| o_goto 7
def bX7_offerStone_7 (cal : ab_F) : ab_K := o_iinc 5 1 <| o_goto 6
def bX7_offerStone_8 (cal : ab_F) : ab_K := o_iinc 4 (-1) <| o_goto 5
def bX7_offerStone_9 (cal : ab_F) : ab_K := o_ret none
def bX7_offerStone (cal : ab_F) : List ab_K := [bX7_offerStone_0 cal, bX7_offerStone_1 cal, bX7_offerStone_2 cal, bX7_offerStone_3 cal, bX7_offerStone_4 cal, bX7_offerStone_5 cal, bX7_offerStone_6 cal, bX7_offerStone_7 cal, bX7_offerStone_8 cal, bX7_offerStone_9 cal]
set_option maxRecDepth 100000 in
theorem sX7_offerStone_0 {G : ab_G} {xs : List Int32} {d : Nat} {cal : ab_F} (hcs : ab_CS G (ab_Z G xs) ab_Mf cal d) : ab_Sd G (ab_Z G xs) (d + 1) (ab_mY mX7_offerStone pX7_offerStone) 0 (bX7_offerStone_0 cal) :=
  sn_iconst dX7_offerStone_0 rfl <| sn_istore dX7_offerStone_1 (by decide) <| sn_next rfl
set_option maxRecDepth 100000 in
theorem sX7_offerStone_1 {G : ab_G} {xs : List Int32} {d : Nat} {cal : ab_F} (hcs : ab_CS G (ab_Z G xs) ab_Mf cal d) : ab_Sd G (ab_Z G xs) (d + 1) (ab_mY mX7_offerStone pX7_offerStone) 3 (bX7_offerStone_1 cal) :=
  sn_iload dX7_offerStone_3 <| sn_iload_n dX7_offerStone_5 rfl <| sn_cmp_ge (tg := 43) dX7_offerStone_6 rfl rfl <| sn_aload_n dX7_offerStone_9 rfl <| sn_getf dX7_offerStone_10 rfl hinX7 (by decide) w_165 <| sn_iload dX7_offerStone_13 <| sn_bipush dX7_offerStone_15 rfl <| sn_aload_n dX7_offerStone_17 rfl <| sn_iload_n dX7_offerStone_18 rfl <| sn_iload dX7_offerStone_19 <| sq_callV mt_43 hcs dX7_offerStone_21 rfl w_549 w_550 w_551 w_56 w_552 hy_43 hm_43 <| sn_imul dX7_offerStone_24 <| sn_iload dX7_offerStone_25 <| sn_if_ne (tg := 34) dX7_offerStone_27 rfl rfl <| sn_iload_n dX7_offerStone_30 rfl <| sn_goto (tg := 35) dX7_offerStone_31 rfl rfl
set_option maxRecDepth 100000 in
theorem sX7_offerStone_2 {G : ab_G} {xs : List Int32} {d : Nat} {cal : ab_F} (hcs : ab_CS G (ab_Z G xs) ab_Mf cal d) : ab_Sd G (ab_Z G xs) (d + 1) (ab_mY mX7_offerStone pX7_offerStone) 34 (bX7_offerStone_2 cal) :=
  sn_iconst dX7_offerStone_34 rfl <| sn_next rfl
set_option maxRecDepth 100000 in
theorem sX7_offerStone_3 {G : ab_G} {xs : List Int32} {d : Nat} {cal : ab_F} (hcs : ab_CS G (ab_Z G xs) ab_Mf cal d) : ab_Sd G (ab_Z G xs) (d + 1) (ab_mY mX7_offerStone pX7_offerStone) 35 (bX7_offerStone_3 cal) :=
  sn_iadd dX7_offerStone_35 <| sn_iast dX7_offerStone_36 rfl rfl <| sn_iinc dX7_offerStone_37 rfl (by decide) <| sn_goto (tg := 3) dX7_offerStone_40 rfl rfl
set_option maxRecDepth 100000 in
theorem sX7_offerStone_4 {G : ab_G} {xs : List Int32} {d : Nat} {cal : ab_F} (hcs : ab_CS G (ab_Z G xs) ab_Mf cal d) : ab_Sd G (ab_Z G xs) (d + 1) (ab_mY mX7_offerStone pX7_offerStone) 43 (bX7_offerStone_4 cal) :=
  sn_iconst dX7_offerStone_43 rfl <| sn_iload_n dX7_offerStone_44 rfl <| sn_ishl dX7_offerStone_45 <| sn_iconst dX7_offerStone_46 rfl <| sn_isub dX7_offerStone_47 <| sn_istore dX7_offerStone_48 (by decide) <| sn_next rfl
set_option maxRecDepth 100000 in
theorem sX7_offerStone_5 {G : ab_G} {xs : List Int32} {d : Nat} {cal : ab_F} (hcs : ab_CS G (ab_Z G xs) ab_Mf cal d) : ab_Sd G (ab_Z G xs) (d + 1) (ab_mY mX7_offerStone pX7_offerStone) 50 (bX7_offerStone_5 cal) :=
  sn_iload dX7_offerStone_50 <| sn_if_le (tg := 123) dX7_offerStone_52 rfl rfl <| sn_iconst dX7_offerStone_55 rfl <| sn_istore dX7_offerStone_56 (by decide) <| sn_next rfl
set_option maxRecDepth 100000 in
theorem sX7_offerStone_6 {G : ab_G} {xs : List Int32} {d : Nat} {cal : ab_F} (hcs : ab_CS G (ab_Z G xs) ab_Mf cal d) : ab_Sd G (ab_Z G xs) (d + 1) (ab_mY mX7_offerStone pX7_offerStone) 58 (bX7_offerStone_6 cal) :=
  sn_iload dX7_offerStone_58 <| sn_iload_n dX7_offerStone_60 rfl <| sn_cmp_ge (tg := 117) dX7_offerStone_61 rfl rfl <| sn_iload dX7_offerStone_64 <| sn_iload dX7_offerStone_66 <| sn_ishr dX7_offerStone_68 <| sn_iconst dX7_offerStone_69 rfl <| sn_iand dX7_offerStone_70 <| sn_if_eq (tg := 111) dX7_offerStone_71 rfl rfl <| sn_aload_n dX7_offerStone_74 rfl <| sn_getf dX7_offerStone_75 rfl hinX7 (by decide) w_164 <| sn_iload dX7_offerStone_78 <| sn_aload_n dX7_offerStone_80 rfl <| sn_getf dX7_offerStone_81 rfl hinX7 (by decide) w_164 <| sn_iload dX7_offerStone_84 <| sn_iald dX7_offerStone_86 rfl <| sn_aload_n dX7_offerStone_87 rfl <| sn_getf dX7_offerStone_88 rfl hinX7 (by decide) w_164 <| sn_iload dX7_offerStone_91 <| sn_iconst dX7_offerStone_93 rfl <| sn_iload dX7_offerStone_94 <| sn_ishl dX7_offerStone_96 <| sn_isub dX7_offerStone_97 <| sn_iald dX7_offerStone_98 rfl <| sn_aload_n dX7_offerStone_99 rfl <| sn_getf dX7_offerStone_100 rfl hinX7 (by decide) w_165 <| sn_iload dX7_offerStone_103 <| sn_iald dX7_offerStone_105 rfl <| sn_iadd dX7_offerStone_106 <| sn_mmin (Nat.le_add_left 1 _) rfl dX7_offerStone_107 w_554 w_372 w_66 w_373 <| sn_iast dX7_offerStone_110 rfl rfl <| sn_next rfl
set_option maxRecDepth 100000 in
theorem sX7_offerStone_7 {G : ab_G} {xs : List Int32} {d : Nat} {cal : ab_F} (hcs : ab_CS G (ab_Z G xs) ab_Mf cal d) : ab_Sd G (ab_Z G xs) (d + 1) (ab_mY mX7_offerStone pX7_offerStone) 111 (bX7_offerStone_7 cal) :=
  sn_iinc dX7_offerStone_111 rfl (by decide) <| sn_goto (tg := 58) dX7_offerStone_114 rfl rfl
set_option maxRecDepth 100000 in
theorem sX7_offerStone_8 {G : ab_G} {xs : List Int32} {d : Nat} {cal : ab_F} (hcs : ab_CS G (ab_Z G xs) ab_Mf cal d) : ab_Sd G (ab_Z G xs) (d + 1) (ab_mY mX7_offerStone pX7_offerStone) 117 (bX7_offerStone_8 cal) :=
  sn_iinc dX7_offerStone_117 rfl (by decide) <| sn_goto (tg := 50) dX7_offerStone_120 rfl rfl
set_option maxRecDepth 100000 in
theorem sX7_offerStone_9 {G : ab_G} {xs : List Int32} {d : Nat} {cal : ab_F} (hcs : ab_CS G (ab_Z G xs) ab_Mf cal d) : ab_Sd G (ab_Z G xs) (d + 1) (ab_mY mX7_offerStone pX7_offerStone) 123 (bX7_offerStone_9 cal) :=
  sn_ret dX7_offerStone_123 ab_ri_void
theorem sX7_offerStone {G : ab_G} {xs : List Int32} {d : Nat} {cal : ab_F} (hcs : ab_CS G (ab_Z G xs) ab_Mf cal d) : ab_BS G (ab_Z G xs) (d + 1) (ab_mY mX7_offerStone pX7_offerStone) pX7_offerStone (bX7_offerStone cal) := ⟨sX7_offerStone_0 hcs, sX7_offerStone_1 hcs, sX7_offerStone_2 hcs, sX7_offerStone_3 hcs, sX7_offerStone_4 hcs, sX7_offerStone_5 hcs, sX7_offerStone_6 hcs, sX7_offerStone_7 hcs, sX7_offerStone_8 hcs, sX7_offerStone_9 hcs, trivial⟩
