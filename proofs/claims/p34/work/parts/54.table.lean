set_option maxRecDepth 100000 in
set_option maxHeartbeats 4000000 in
theorem c_X4_draw {d : Nat} {t : TS} {b : Nat}  (hb : isT b) (ok : OK t) : CI (EX FU (d + 1)) 33 [.ref b] (mk t) (fun z t' => OK t' ∧ Fr [(b, 14)] t t' ∧ (tI t' b 14 = znF (tI t b 14)) ∧ (z = drF (znF (tI t b 14))) ∧ (0 ≤ z) ∧ (z < 16777216)) := by
  refine CI_ent (d := d + 0) (Bk := bX4_draw) (nL := 1) rfl rfl rfl (Nat.le_of_ble_eq_true rfl) ?_
  show Rn _ 1000000 0 [some (.ref b)] [] _ _
  have fr : Fr [(b, 14)] t t := Fr.rf _ _
  refine w_step rfl ?_
  refine w_aload rfl ?_
  refine w_aload rfl ?_
  refine w_getI (gT_14 hb _) (feT_14 hb) ok (fun z1 hz1 hl1 hh1 => ?_)
  refine w_push kc_1103515245 ?_
  refine w_mulW (fun z2 hz2 hl2 hh2 => ?_)
  refine w_push kc_12345 ?_
  refine w_addW (fun z3 hz3 hl3 hh3 => ?_)
  refine w_putI (pT_14 hb _) (feT_14 hb) ok (by omega) (fun t4 ht4 ok4 => ?_)
  have fr4 := fr.uI ht4 (by simp)
  refine w_aload rfl ?_
  refine w_getI (gT_14 hb _) (feT_14 hb) ok4 (fun z5 hz5 hl5 hh5 => ?_)
  refine w_push kc_8 ?_
  refine w_bin (fun z6 hz6 hl6 hh6 => ?_)
  have hu6 := ah_ushr8 hz6
  refine w_retI rfl ?_
  exact ⟨ok4, fr4, (by subst_vars; simp [tI_uI, znF]), (by subst_vars; simp [tI_uI, znF, drF]), (by omega), (by omega)⟩
set_option maxRecDepth 100000 in
set_option maxHeartbeats 4000000 in
theorem c_X4_darkAt {d : Nat} {t : TS} {s r u : Int}  (ok : OK t) (q0 : 0 ≤ s) (q1 : s ≤ 11) (q2 : 0 ≤ r) (q3 : r ≤ 3) (q4 : 0 ≤ u) (q5 : u ≤ 1) : CI (EX FU (d + 1)) 39 [.int (jI s), .int (jI r), .int (jI u)] (mk t) (fun z t' => t = t' ∧ (z = (s * 4 + r) * 2 + u)) := by
  refine CI_ent (d := d + 0) (Bk := bX4_darkAt) (nL := 3) rfl rfl rfl (Nat.le_of_ble_eq_true rfl) ?_
  show Rn _ 1000000 0 [some (.int (jI s)), some (.int (jI r)), some (.int (jI u))] [] _ _
  refine w_step rfl ?_
  refine w_iload rfl ?_
  refine w_push kc_4 ?_
  refine w_mul ?_
  refine w_iload rfl ?_
  refine w_add ?_
  refine w_push kc_2 ?_
  refine w_mul ?_
  refine w_iload rfl ?_
  refine w_add ?_
  refine w_retI rfl ?_
  exact ⟨rfl, (by omega)⟩
set_option maxRecDepth 100000 in
set_option maxHeartbeats 4000000 in
theorem c_X4_heavy {d : Nat} {t : TS} {b : Nat} {s : Int}  (hb : isT b) (ok : OK t) (q0 : 0 ≤ s) (q1 : s ≤ 11) : CI (EX FU (d + 2)) 40 [.ref b, .int (jI s)] (mk t) (fun z t' => t = t' ∧ (z = hvF (tA t (b + 1) s.toNat) (tA t (b + 2) s.toNat) (tA t (b + 3) s.toNat)) ∧ (0 ≤ z) ∧ (z ≤ 28)) := by
  refine CI_ent (d := d + 1) (Bk := bX4_heavy) (nL := 2) rfl rfl rfl (Nat.le_of_ble_eq_true rfl) ?_
  show Rn _ 1000000 0 [some (.ref b), some (.int (jI s))] [] _ _
  refine w_step rfl ?_
  refine w_aload rfl ?_
  refine w_getR (gT_0 hb _) ?_
  refine w_iload rfl ?_
  refine w_iald (i := (s).toNat) (aiT_1 hb _) (by omega) (by omega) (aeT_1 hb _) ok (fun z1 hz1 hl1 hh1 => ?_)
  refine w_aload rfl ?_
  refine w_getR (gT_1 hb _) ?_
  refine w_iload rfl ?_
  refine w_iald (i := (s).toNat) (aiT_2 hb _) (by omega) (by omega) (aeT_2 hb _) ok (fun z2 hz2 hl2 hh2 => ?_)
  refine w_aload rfl ?_
  refine w_getR (gT_2 hb _) ?_
  refine w_iload rfl ?_
  refine w_iald (i := (s).toNat) (aiT_3 hb _) (by omega) (by omega) (aeT_3 hb _) ok (fun z3 hz3 hl3 hh3 => ?_)
  refine w_callS3I rfl (c_X0_heavy ok (by omega) (by omega) (by omega) (by omega) (by omega) (by omega)) ?_
  rintro z4 t4 ⟨rfl, hp4_0, hp4_1, hp4_2⟩
  refine w_retI rfl ?_
  exact ⟨rfl, (by subst_vars; rfl), (by omega), (by omega)⟩
set_option maxRecDepth 100000 in
set_option maxHeartbeats 4000000 in
theorem c_X4_spots {d : Nat} {t : TS} {b : Nat} {s h : Int}  (hb : isT b) (ok : OK t) (q0 : 0 ≤ s) (q1 : s ≤ 11) (q2 : -2147483648 ≤ h) (q3 : h ≤ 2147483647) : CI (EX FU (d + 1)) 41 [.ref b, .int (jI s), .int (jI h)] (mk t) (fun z t' => t = t' ∧ (0 ≤ z) ∧ (z ≤ 6)) := by
  refine CI_ent (d := d + 0) (Bk := bX4_spots) (nL := 3) rfl rfl rfl (Nat.le_of_ble_eq_true rfl) ?_
  show Rn _ 1000000 0 [some (.ref b), some (.int (jI s)), some (.int (jI h))] [] _ _
  refine w_step rfl ?_
  refine w_iload rfl ?_
  refine w_aload rfl ?_
  refine w_getR (gT_4 hb _) ?_
  refine w_iload rfl ?_
  refine w_iald (i := (s).toNat) (aiT_5 hb _) (by omega) (by omega) (aeT_5 hb _) ok (fun z1 hz1 hl1 hh1 => ?_)
  refine w_cne (by omega) (fun h2 => ?_) (fun h2 => ?_)
  · skip
    refine w_step rfl ?_
    refine w_aload rfl ?_
    refine w_getR (gT_2 hb _) ?_
    refine w_iload rfl ?_
    refine w_iald (i := (s).toNat) (aiT_3 hb _) (by omega) (by omega) (aeT_3 hb _) ok (fun z3 hz3 hl3 hh3 => ?_)
    refine w_goto ?_
    refine w_step rfl ?_
    refine w_retI rfl ?_
    exact ⟨rfl, (by omega), (by omega)⟩
  refine w_aload rfl ?_
  refine w_getR (gT_1 hb _) ?_
  refine w_iload rfl ?_
  refine w_iald (i := (s).toNat) (aiT_2 hb _) (by omega) (by omega) (aeT_2 hb _) ok (fun z4 hz4 hl4 hh4 => ?_)
  refine w_goto ?_
  refine w_step rfl ?_
  refine w_retI rfl ?_
  exact ⟨rfl, (by omega), (by omega)⟩
set_option maxRecDepth 100000 in
set_option maxHeartbeats 4000000 in
theorem c_X4_offAt {d : Nat} {t : TS} {b : Nat} {s p u : Int}  (hb : isT b) (ok : OK t) (q0 : 0 ≤ s) (q1 : s ≤ 11) (q2 : 0 ≤ p) (q3 : p ≤ 11) (q4 : 0 ≤ u) (q5 : u ≤ 1) : CI (EX FU (d + 2)) 42 [.ref b, .int (jI s), .int (jI p), .int (jI u)] (mk t) (fun z t' => t = t' ∧ (0 ≤ z) ∧ (z ≤ 198)) := by
  refine CI_ent (d := d + 1) (Bk := bX4_offAt) (nL := 7) rfl rfl rfl (Nat.le_of_ble_eq_true rfl) ?_
  show Rn _ 1000000 0 [some (.ref b), some (.int (jI s)), some (.int (jI p)), some (.int (jI u)), none, none, none] [] _ _
  refine w_step rfl ?_
  refine w_iload rfl ?_
  refine w_push kc_3 ?_
  refine w_div (by omega) ?_
  refine w_istore (lv' := [some (.ref b), some (.int (jI s)), some (.int (jI p)), some (.int (jI u)), some (.int (jI (p / 3))), none, none]) rfl ?_
  refine w_aload rfl ?_
  refine w_getR (gT_7 hb _) ?_
  refine w_iload rfl ?_
  refine w_iload rfl ?_
  refine w_iload rfl ?_
  refine w_callS3I rfl (c_X4_darkAt ok (by omega) (by omega) (by omega) (by omega) (by omega) (by omega)) ?_
  rintro z1 t1 ⟨rfl, hp1_0⟩
  refine w_iald (i := (z1).toNat) (aiT_8 hb _) (by omega) (by omega) (aeT_8 hb _) ok (fun z2 hz2 hl2 hh2 => ?_)
  refine w_aload rfl ?_
  refine w_getR (gT_6 hb _) ?_
  refine w_push kc_2 ?_
  refine w_iload rfl ?_
  refine w_mul ?_
  refine w_iald (i := ((2 * p)).toNat) (aiT_7 hb _) (by omega) (by omega) (aeT_7 hb _) ok (fun z3 hz3 hl3 hh3 => ?_)
  refine w_sub ?_
  refine w_istore (lv' := [some (.ref b), some (.int (jI s)), some (.int (jI p)), some (.int (jI u)), some (.int (jI (p / 3))), some (.int (jI (z2 - z3))), none]) rfl ?_
  refine w_aload rfl ?_
  refine w_getR (gT_7 hb _) ?_
  refine w_iload rfl ?_
  refine w_iload rfl ?_
  refine w_push kc_1 ?_
  refine w_iload rfl ?_
  refine w_sub ?_
  refine w_callS3I rfl (c_X4_darkAt ok (by omega) (by omega) (by omega) (by omega) (by omega) (by omega)) ?_
  rintro z4 t4 ⟨rfl, hp4_0⟩
  refine w_iald (i := (z4).toNat) (aiT_8 hb _) (by omega) (by omega) (aeT_8 hb _) ok (fun z5 hz5 hl5 hh5 => ?_)
  refine w_aload rfl ?_
  refine w_getR (gT_6 hb _) ?_
  refine w_push kc_2 ?_
  refine w_iload rfl ?_
  refine w_mul ?_
  refine w_push kc_1 ?_
  refine w_add ?_
  refine w_iald (i := (((2 * p) + 1)).toNat) (aiT_7 hb _) (by omega) (by omega) (aeT_7 hb _) ok (fun z6 hz6 hl6 hh6 => ?_)
  refine w_sub ?_
  refine w_istore (lv' := [some (.ref b), some (.int (jI s)), some (.int (jI p)), some (.int (jI u)), some (.int (jI (p / 3))), some (.int (jI (z2 - z3))), some (.int (jI (z5 - z6)))]) rfl ?_
  refine w_iload rfl ?_
  refine w_abs rfl (by omega) (fun z7 hz7 => ?_)
  refine w_iload rfl ?_
  refine w_abs rfl (by omega) (fun z8 hz8 => ?_)
  refine w_add ?_
  refine w_retI rfl ?_
  exact ⟨rfl, (by omega), (by omega)⟩
set_option maxRecDepth 100000 in
set_option maxHeartbeats 4000000 in
theorem c_X4_leastOff {d : Nat} {t : TS} {b : Nat} {s p : Int}  (hb : isT b) (ok : OK t) (q0 : 0 ≤ s) (q1 : s ≤ 11) (q2 : 0 ≤ p) (q3 : p ≤ 11) : CI (EX FU (d + 3)) 43 [.ref b, .int (jI s), .int (jI p)] (mk t) (fun z t' => t = t' ∧ (0 ≤ z) ∧ (z ≤ 198)) := by
  refine CI_ent (d := d + 2) (Bk := bX4_leastOff) (nL := 3) rfl rfl rfl (Nat.le_of_ble_eq_true rfl) ?_
  show Rn _ 1000000 0 [some (.ref b), some (.int (jI s)), some (.int (jI p))] [] _ _
  refine w_step rfl ?_
  refine w_aload rfl ?_
  refine w_iload rfl ?_
  refine w_iload rfl ?_
  refine w_push kc_0 ?_
  refine w_callV3I (ojT hb _).choose_spec rfl (c_X4_offAt hb ok (by omega) (by omega) (by omega) (by omega) (by omega) (by omega)) ?_
  rintro z1 t1 ⟨rfl, hp1_0, hp1_1⟩
  refine w_aload rfl ?_
  refine w_iload rfl ?_
  refine w_iload rfl ?_
  refine w_push kc_1 ?_
  refine w_callV3I (ojT hb _).choose_spec rfl (c_X4_offAt hb ok (by omega) (by omega) (by omega) (by omega) (by omega) (by omega)) ?_
  rintro z2 t2 ⟨rfl, hp2_0, hp2_1⟩
  refine w_min rfl (by omega) ?_
  refine w_retI rfl ?_
  exact ⟨rfl, (by omega), (by omega)⟩
set_option maxRecDepth 100000 in
set_option maxHeartbeats 4000000 in
theorem c_X4_isLaid {d : Nat} {t : TS} {b : Nat} {s : Int}  (hb : isT b) (ok : OK t) (q0 : 0 ≤ s) (q1 : s ≤ 11) : CI (EX FU (d + 1)) 44 [.ref b, .int (jI s)] (mk t) (fun z t' => t = t' ∧ ((z = 0 ∧ ¬ (tA t (b + 4) s.toNat < 12)) ∨ (z = 1 ∧ (tA t (b + 4) s.toNat < 12)))) := by
  refine CI_ent (d := d + 0) (Bk := bX4_isLaid) (nL := 2) rfl rfl rfl (Nat.le_of_ble_eq_true rfl) ?_
  show Rn _ 1000000 0 [some (.ref b), some (.int (jI s))] [] _ _
  refine w_step rfl ?_
  refine w_aload rfl ?_
  refine w_getR (gT_3 hb _) ?_
  refine w_iload rfl ?_
  refine w_iald (i := (s).toNat) (aiT_4 hb _) (by omega) (by omega) (aeT_4 hb _) ok (fun z1 hz1 hl1 hh1 => ?_)
  refine w_push kc_12 ?_
  refine w_cge (by omega) (fun h2 => ?_) (fun h2 => ?_)
  · skip
    refine w_step rfl ?_
    refine w_push kc_0 ?_
    refine w_goto ?_
    refine w_step rfl ?_
    refine w_retI rfl ?_
    exact ⟨rfl, (by omega)⟩
  refine w_push kc_1 ?_
  refine w_goto ?_
  refine w_step rfl ?_
  refine w_retI rfl ?_
  exact ⟨rfl, (by omega)⟩
set_option maxRecDepth 100000 in
set_option maxHeartbeats 4000000 in
theorem c_X4_moveTo {d : Nat} {t : TS} {b : Nat} {s p : Int}  (hb : isT b) (ok : OK t) (q0 : 0 ≤ s) (q1 : s ≤ 11) (q2 : 0 ≤ p) (q3 : p ≤ 13) : CV (EX FU (d + 2)) 45 [.ref b, .int (jI s), .int (jI p)] (mk t) (fun t' => OK t' ∧ Fr [(b + 4, 100), (b + 6, 100)] t t') := by
  refine CV_ent (d := d + 1) (Bk := bX4_moveTo) (nL := 3) rfl rfl rfl (Nat.le_of_ble_eq_true rfl) ?_
  show Rn _ 1000000 0 [some (.ref b), some (.int (jI s)), some (.int (jI p))] [] _ _
  have fr : Fr [(b + 4, 100), (b + 6, 100)] t t := Fr.rf _ _
  refine w_step rfl ?_
  refine w_aload rfl ?_
  refine w_iload rfl ?_
  refine w_callV1I (ojT hb _).choose_spec rfl (c_X4_isLaid hb ok (by omega) (by omega)) ?_
  rintro z1 t1 ⟨rfl, hp1_0⟩
  rcases hp1_0 with ⟨rfl, hp1_0⟩ | ⟨rfl, hp1_0⟩
  · skip
    refine w_ieq (by omega) (fun _ => ?_) (fun h => absurd (by omega) h)
    refine w_step rfl ?_
    refine w_aload rfl ?_
    refine w_getR (gT_3 hb _) ?_
    refine w_iload rfl ?_
    refine w_iload rfl ?_
    refine w_iast (i := (s).toNat) (aiT_4 hb _) rfl (by omega) (by omega) (aeT_4 hb _) ok (by omega) (fun t2 ht2 ok2 => ?_)
    have fr2 := fr.uA ht2 (by simp)
    refine w_iload rfl ?_
    refine w_push kc_12 ?_
    refine w_cge (by omega) (fun h3 => ?_) (fun h3 => ?_)
    · skip
      refine w_step rfl ?_
      refine w_retV ?_
      exact ⟨ok2, fr2⟩
    refine w_aload rfl ?_
    refine w_getR (gT_5 hb _) ?_
    refine w_iload rfl ?_
    refine w_iload rfl ?_
    refine w_iast (i := (p).toNat) (aiT_6 hb _) rfl (by omega) (by omega) (aeT_6 hb _) ok2 (by omega) (fun t4 ht4 ok4 => ?_)
    have fr4 := fr2.uA ht4 (by simp)
    refine w_goto ?_
    refine w_step rfl ?_
    refine w_retV ?_
    exact ⟨ok4, fr4⟩
  refine w_ieq (by omega) (fun h => absurd h (by omega)) (fun _ => ?_)
  refine w_aload rfl ?_
  refine w_getR (gT_5 hb _) ?_
  refine w_aload rfl ?_
  refine w_getR (gT_3 hb _) ?_
  refine w_iload rfl ?_
  refine w_iald (i := (s).toNat) (aiT_4 hb _) (by omega) (by omega) (aeT_4 hb _) ok (fun z5 hz5 hl5 hh5 => ?_)
  refine w_push kc_m1 ?_
  refine w_iast (i := (z5).toNat) (aiT_6 hb _) rfl (by omega) (by omega) (aeT_6 hb _) ok (by omega) (fun t6 ht6 ok6 => ?_)
  have fr6 := fr.uA ht6 (by simp)
  refine w_goto ?_
  refine w_step rfl ?_
  refine w_aload rfl ?_
  refine w_getR (gT_3 hb _) ?_
  refine w_iload rfl ?_
  refine w_iload rfl ?_
  refine w_iast (i := (s).toNat) (aiT_4 hb _) rfl (by omega) (by omega) (aeT_4 hb _) ok6 (by omega) (fun t7 ht7 ok7 => ?_)
  have fr7 := fr6.uA ht7 (by simp)
  refine w_iload rfl ?_
  refine w_push kc_12 ?_
  refine w_cge (by omega) (fun h8 => ?_) (fun h8 => ?_)
  · skip
    refine w_step rfl ?_
    refine w_retV ?_
    exact ⟨ok7, fr7⟩
  refine w_aload rfl ?_
  refine w_getR (gT_5 hb _) ?_
  refine w_iload rfl ?_
  refine w_iload rfl ?_
  refine w_iast (i := (p).toNat) (aiT_6 hb _) rfl (by omega) (by omega) (aeT_6 hb _) ok7 (by omega) (fun t9 ht9 ok9 => ?_)
  have fr9 := fr7.uA ht9 (by simp)
  refine w_goto ?_
  refine w_step rfl ?_
  refine w_retV ?_
  exact ⟨ok9, fr9⟩
set_option maxRecDepth 100000 in
set_option maxHeartbeats 4000000 in
theorem c_X4_picture {d : Nat} {t : TS} {b : Nat}  (hb : isT b) (ok : OK t) : CI (EX FU (d + 3)) 46 [.ref b] (mk t) (fun z t' => t = t' ∧ (0 ≤ z) ∧ (z ≤ 2376)) := by
  refine CI_ent (d := d + 2) (Bk := bX4_picture) (nL := 4) rfl rfl rfl (Nat.le_of_ble_eq_true rfl) ?_
  show Rn _ 1000000 0 [some (.ref b), none, none, none] [] _ _
  refine w_step rfl ?_
  refine w_push kc_0 ?_
  refine w_istore (lv' := [some (.ref b), some (.int (jI 0)), none, none]) rfl ?_
  refine w_push kc_0 ?_
  refine w_istore (lv' := [some (.ref b), some (.int (jI 0)), some (.int (jI 0)), none]) rfl ?_
  refine w_goto ?_
  have key1 : ∀ (n1 M1 : Nat) (acc : Int) (p : Int) (o3 : Option Int), (0 ≤ p) → (p ≤ 12) → (0 ≤ acc) → (acc ≤ 198 * p) → 12 - p < (n1 : Int) → 60 * n1 + (1000) ≤ M1 → Rn (bX4_picture (EX FU (d + 2))) M1 1 [some (.ref b), some (.int (jI acc)), some (.int (jI p)), dv o3] [] (mk t) (PI (fun z t' => t = t' ∧ (0 ≤ z) ∧ (z ≤ 2376))) := by
    intro n1
    induction n1 with
    | zero => intro M1 acc p o3 i1_0 i1_1 i1_2 i1_3 v1 f1; exfalso; omega
    | succ n1 ih1 =>
      intro M1 acc p o3 i1_0 i1_1 i1_2 i1_3 v1 f1
      obtain ⟨M1, rfl⟩ : ∃ m, M1 = m + 60 := ⟨M1 - 60, by omega⟩
      refine w_step rfl ?_
      refine w_iload rfl ?_
      refine w_push kc_12 ?_
      refine w_cge (by omega) (fun h1 => ?_) (fun h1 => ?_)
      · skip
        refine w_step rfl ?_
        refine w_iload rfl ?_
        refine w_retI rfl ?_
        exact ⟨rfl, (by omega), (by omega)⟩
      refine w_aload rfl ?_
      refine w_getR (gT_5 hb _) ?_
      refine w_iload rfl ?_
      refine w_iald (i := (p).toNat) (aiT_6 hb _) (by omega) (by omega) (aeT_6 hb _) ok (fun z2 hz2 hl2 hh2 => ?_)
      refine w_istore (lv' := [some (.ref b), some (.int (jI acc)), some (.int (jI p)), some (.int (jI z2))]) rfl ?_
      refine w_iload rfl ?_
      refine w_iload rfl ?_
      refine w_push kc_m1 ?_
      refine w_cne (by omega) (fun h3 => ?_) (fun h3 => ?_)
      · skip
        refine w_step rfl ?_
        refine w_aload rfl ?_
        refine w_iload rfl ?_
        refine w_iload rfl ?_
        refine w_aload rfl ?_
        refine w_getR (gT_4 hb _) ?_
        refine w_iload rfl ?_
        refine w_iald (i := (z2).toNat) (aiT_5 hb _) (by omega) (by omega) (aeT_5 hb _) ok (fun z4 hz4 hl4 hh4 => ?_)
        refine w_callV3I (ojT hb _).choose_spec rfl (c_X4_offAt hb ok (by omega) (by omega) (by omega) (by omega) (by omega) (by omega)) ?_
        rintro z5 t5 ⟨rfl, hp5_0, hp5_1⟩
        refine w_goto ?_
        refine w_step rfl ?_
        refine w_add ?_
        refine w_istore (lv' := [some (.ref b), some (.int (jI (acc + z5))), some (.int (jI p)), some (.int (jI z2))]) rfl ?_
        refine w_iinc (lv' := [some (.ref b), some (.int (jI (acc + z5))), some (.int (jI (p + 1))), some (.int (jI z2))]) kc_1 rfl rfl ?_
        refine w_goto ?_
        exact ih1 _ (acc + z5) (p + 1) (some z2)  (by omega) (by omega) (by omega) (by omega) (by omega) (by omega)
      refine w_push kc_198 ?_
      refine w_goto ?_
      refine w_step rfl ?_
      refine w_add ?_
      refine w_istore (lv' := [some (.ref b), some (.int (jI (acc + 198))), some (.int (jI p)), some (.int (jI z2))]) rfl ?_
      refine w_iinc (lv' := [some (.ref b), some (.int (jI (acc + 198))), some (.int (jI (p + 1))), some (.int (jI z2))]) kc_1 rfl rfl ?_
      refine w_goto ?_
      exact ih1 _ (acc + 198) (p + 1) (some z2)  (by omega) (by omega) (by omega) (by omega) (by omega) (by omega)
  exact key1 13 _ 0 0 none  (by omega) (by omega) (by omega) (by omega) (by omega) (by omega)
set_option maxRecDepth 100000 in
set_option maxHeartbeats 4000000 in
theorem c_X4_meet {d : Nat} {t : TS} {b : Nat} {x y : Int}  (hb : isT b) (ok : OK t) (q0 : -1 ≤ x) (q1 : x ≤ 11) (q2 : -1 ≤ y) (q3 : y ≤ 11) : CI (EX FU (d + 2)) 48 [.ref b, .int (jI x), .int (jI y)] (mk t) (fun z t' => t = t' ∧ (0 ≤ z) ∧ (z ≤ 1)) := by
  refine CI_ent (d := d + 1) (Bk := bX4_meet) (nL := 3) rfl rfl rfl (Nat.le_of_ble_eq_true rfl) ?_
  show Rn _ 1000000 0 [some (.ref b), some (.int (jI x)), some (.int (jI y))] [] _ _
  refine w_step rfl ?_
  refine w_iload rfl ?_
  refine w_push kc_m1 ?_
  refine w_ceq (by omega) (fun h1 => ?_) (fun h1 => ?_)
  · skip
    refine w_step rfl ?_
    refine w_push kc_0 ?_
    refine w_goto ?_
    refine w_step rfl ?_
    refine w_retI rfl ?_
    exact ⟨rfl, (by omega), (by omega)⟩
  refine w_iload rfl ?_
  refine w_push kc_m1 ?_
  refine w_ceq (by omega) (fun h2 => ?_) (fun h2 => ?_)
  · skip
    refine w_step rfl ?_
    refine w_push kc_0 ?_
    refine w_goto ?_
    refine w_step rfl ?_
    refine w_retI rfl ?_
    exact ⟨rfl, (by omega), (by omega)⟩
  refine w_aload rfl ?_
  refine w_iload rfl ?_
  refine w_push kc_1 ?_
  refine w_callV2I (ojT hb _).choose_spec rfl (c_X4_spots hb ok (by omega) (by omega) (by omega) (by omega)) ?_
  rintro z3 t3 ⟨rfl, hp3_0, hp3_1⟩
  refine w_aload rfl ?_
  refine w_iload rfl ?_
  refine w_push kc_0 ?_
  refine w_callV2I (ojT hb _).choose_spec rfl (c_X4_spots hb ok (by omega) (by omega) (by omega) (by omega)) ?_
  rintro z4 t4 ⟨rfl, hp4_0, hp4_1⟩
  refine w_cne (by omega) (fun h5 => ?_) (fun h5 => ?_)
  · skip
    refine w_step rfl ?_
    refine w_push kc_0 ?_
    refine w_goto ?_
    refine w_step rfl ?_
    refine w_retI rfl ?_
    exact ⟨rfl, (by omega), (by omega)⟩
  refine w_push kc_1 ?_
  refine w_goto ?_
  refine w_step rfl ?_
  refine w_retI rfl ?_
  exact ⟨rfl, (by omega), (by omega)⟩
set_option maxRecDepth 100000 in
set_option maxHeartbeats 4000000 in
theorem c_X4_matches {d : Nat} {t : TS} {b : Nat}  (hb : isT b) (ok : OK t) : CI (EX FU (d + 3)) 47 [.ref b] (mk t) (fun z t' => t = t' ∧ (0 ≤ z) ∧ (z ≤ 11)) := by
  refine CI_ent (d := d + 2) (Bk := bX4_matches) (nL := 4) rfl rfl rfl (Nat.le_of_ble_eq_true rfl) ?_
  show Rn _ 1000000 0 [some (.ref b), none, none, none] [] _ _
  refine w_step rfl ?_
  refine w_push kc_0 ?_
  refine w_istore (lv' := [some (.ref b), some (.int (jI 0)), none, none]) rfl ?_
  refine w_push kc_0 ?_
  refine w_istore (lv' := [some (.ref b), some (.int (jI 0)), some (.int (jI 0)), none]) rfl ?_
  refine w_goto ?_
  have key1 : ∀ (n1 M1 : Nat) (acc : Int) (p : Int) (o3 : Option Int), (0 ≤ p) → (p ≤ 11) → (0 ≤ acc) → (acc ≤ p) → 11 - p < (n1 : Int) → 60 * n1 + (1000) ≤ M1 → Rn (bX4_matches (EX FU (d + 2))) M1 1 [some (.ref b), some (.int (jI acc)), some (.int (jI p)), dv o3] [] (mk t) (PI (fun z t' => t = t' ∧ (0 ≤ z) ∧ (z ≤ 11))) := by
    intro n1
    induction n1 with
    | zero => intro M1 acc p o3 i1_0 i1_1 i1_2 i1_3 v1 f1; exfalso; omega
    | succ n1 ih1 =>
      intro M1 acc p o3 i1_0 i1_1 i1_2 i1_3 v1 f1
      obtain ⟨M1, rfl⟩ : ∃ m, M1 = m + 60 := ⟨M1 - 60, by omega⟩
      refine w_step rfl ?_
      refine w_iload rfl ?_
      refine w_push kc_1 ?_
      refine w_add ?_
      refine w_push kc_12 ?_
      refine w_cge (by omega) (fun h1 => ?_) (fun h1 => ?_)
      · skip
        refine w_step rfl ?_
        refine w_iload rfl ?_
        refine w_retI rfl ?_
        exact ⟨rfl, (by omega), (by omega)⟩
      refine w_iload rfl ?_
      refine w_push kc_1 ?_
      refine w_add ?_
      refine w_push kc_3 ?_
      refine w_rem (by omega) ?_
      refine w_ieq (by omega) (fun h2 => ?_) (fun h2 => ?_)
      · skip
        refine w_step rfl ?_
        refine w_push kc_0 ?_
        refine w_goto ?_
        refine w_step rfl ?_
        refine w_istore (lv' := [some (.ref b), some (.int (jI acc)), some (.int (jI p)), some (.int (jI 0))]) rfl ?_
        refine w_iload rfl ?_
        refine w_ieq (by omega) (fun _ => ?_) (fun h => absurd (by omega) h)
        refine w_step rfl ?_
        refine w_iinc (lv' := [some (.ref b), some (.int (jI acc)), some (.int (jI (p + 1))), some (.int (jI 0))]) kc_1 rfl rfl ?_
        refine w_goto ?_
        exact ih1 _ acc (p + 1) (some 0)  (by omega) (by omega) (by omega) (by omega) (by omega) (by omega)
      refine w_push kc_1 ?_
      refine w_goto ?_
      refine w_step rfl ?_
      refine w_istore (lv' := [some (.ref b), some (.int (jI acc)), some (.int (jI p)), some (.int (jI 1))]) rfl ?_
      refine w_iload rfl ?_
      refine w_ieq (by omega) (fun h => absurd h (by omega)) (fun _ => ?_)
      refine w_aload rfl ?_
      refine w_aload rfl ?_
      refine w_getR (gT_5 hb _) ?_
      refine w_iload rfl ?_
      refine w_iald (i := (p).toNat) (aiT_6 hb _) (by omega) (by omega) (aeT_6 hb _) ok (fun z3 hz3 hl3 hh3 => ?_)
      refine w_aload rfl ?_
      refine w_getR (gT_5 hb _) ?_
      refine w_iload rfl ?_
      refine w_push kc_1 ?_
      refine w_add ?_
      refine w_iald (i := ((p + 1)).toNat) (aiT_6 hb _) (by omega) (by omega) (aeT_6 hb _) ok (fun z4 hz4 hl4 hh4 => ?_)
      refine w_callV2I (ojT hb _).choose_spec rfl (c_X4_meet hb ok (by omega) (by omega) (by omega) (by omega)) ?_
      rintro z5 t5 ⟨rfl, hp5_0, hp5_1⟩
      refine w_ieq (by omega) (fun h6 => ?_) (fun h6 => ?_)
      · skip
        refine w_step rfl ?_
        refine w_iinc (lv' := [some (.ref b), some (.int (jI acc)), some (.int (jI (p + 1))), some (.int (jI 1))]) kc_1 rfl rfl ?_
        refine w_goto ?_
        exact ih1 _ acc (p + 1) (some 1)  (by omega) (by omega) (by omega) (by omega) (by omega) (by omega)
      refine w_iinc (lv' := [some (.ref b), some (.int (jI (acc + 1))), some (.int (jI p)), some (.int (jI 1))]) kc_1 rfl rfl ?_
      refine w_goto ?_
      refine w_step rfl ?_
      refine w_iinc (lv' := [some (.ref b), some (.int (jI (acc + 1))), some (.int (jI (p + 1))), some (.int (jI 1))]) kc_1 rfl rfl ?_
      refine w_goto ?_
      exact ih1 _ (acc + 1) (p + 1) (some 1)  (by omega) (by omega) (by omega) (by omega) (by omega) (by omega)
  exact key1 13 _ 0 0 none  (by omega) (by omega) (by omega) (by omega) (by omega) (by omega)
set_option maxRecDepth 100000 in
set_option maxHeartbeats 4000000 in
theorem c_X4_placesHeld {d : Nat} {t : TS} {b : Nat}  (hb : isT b) (ok : OK t) : CI (EX FU (d + 1)) 50 [.ref b] (mk t) (fun z t' => t = t' ∧ (-2147483648 ≤ z) ∧ (z ≤ 2147483647)) := by
  refine CI_ent (d := d + 0) (Bk := bX4_placesHeld) (nL := 3) rfl rfl rfl (Nat.le_of_ble_eq_true rfl) ?_
  show Rn _ 1000000 0 [some (.ref b), none, none] [] _ _
  refine w_step rfl ?_
  refine w_push kc_0 ?_
  refine w_istore (lv' := [some (.ref b), some (.int (jI 0)), none]) rfl ?_
  refine w_push kc_0 ?_
  refine w_istore (lv' := [some (.ref b), some (.int (jI 0)), some (.int (jI 0))]) rfl ?_
  refine w_goto ?_
  have key1 : ∀ (n1 M1 : Nat) (acc : Int) (p : Int), (0 ≤ p) → (p ≤ 12) → (-2147483648 ≤ acc) → (acc ≤ 2147483647) → 12 - p < (n1 : Int) → 60 * n1 + (1000) ≤ M1 → Rn (bX4_placesHeld (EX FU (d + 0))) M1 1 [some (.ref b), some (.int (jI acc)), some (.int (jI p))] [] (mk t) (PI (fun z t' => t = t' ∧ (-2147483648 ≤ z) ∧ (z ≤ 2147483647))) := by
    intro n1
    induction n1 with
    | zero => intro M1 acc p i1_0 i1_1 i1_2 i1_3 v1 f1; exfalso; omega
    | succ n1 ih1 =>
      intro M1 acc p i1_0 i1_1 i1_2 i1_3 v1 f1
      obtain ⟨M1, rfl⟩ : ∃ m, M1 = m + 60 := ⟨M1 - 60, by omega⟩
      refine w_step rfl ?_
      refine w_iload rfl ?_
      refine w_push kc_12 ?_
      refine w_cge (by omega) (fun h1 => ?_) (fun h1 => ?_)
      · skip
        refine w_step rfl ?_
        refine w_iload rfl ?_
        refine w_retI rfl ?_
        exact ⟨rfl, (by omega), (by omega)⟩
      refine w_aload rfl ?_
      refine w_getR (gT_5 hb _) ?_
      refine w_iload rfl ?_
      refine w_iald (i := (p).toNat) (aiT_6 hb _) (by omega) (by omega) (aeT_6 hb _) ok (fun z2 hz2 hl2 hh2 => ?_)
      refine w_push kc_m1 ?_
      refine w_ceq (by omega) (fun h3 => ?_) (fun h3 => ?_)
      · skip
        refine w_step rfl ?_
        refine w_iinc (lv' := [some (.ref b), some (.int (jI acc)), some (.int (jI (p + 1)))]) kc_1 rfl rfl ?_
        refine w_goto ?_
        exact ih1 _ acc (p + 1)  (by omega) (by omega) (by omega) (by omega) (by omega) (by omega)
      refine w_iload rfl ?_
      refine w_push kc_1 ?_
      refine w_iload rfl ?_
      refine w_bin (fun z4 hz4 hl4 hh4 => ?_)
      refine w_bin (fun z5 hz5 hl5 hh5 => ?_)
      refine w_istore (lv' := [some (.ref b), some (.int (jI z5)), some (.int (jI p))]) rfl ?_
      refine w_goto ?_
      refine w_step rfl ?_
      refine w_iinc (lv' := [some (.ref b), some (.int (jI z5)), some (.int (jI (p + 1)))]) kc_1 rfl rfl ?_
      refine w_goto ?_
      exact ih1 _ z5 (p + 1)  (by omega) (by omega) (by omega) (by omega) (by omega) (by omega)
  exact key1 13 _ 0 0  (by omega) (by omega) (by omega) (by omega) (by omega) (by omega)
set_option maxRecDepth 100000 in
set_option maxHeartbeats 4000000 in
theorem c_X4_laidStones {d : Nat} {t : TS} {b : Nat}  (hb : isT b) (ok : OK t) : CI (EX FU (d + 2)) 49 [.ref b] (mk t) (fun z t' => t = t' ∧ (-2147483648 ≤ z) ∧ (z ≤ 2147483647)) := by
  refine CI_ent (d := d + 1) (Bk := bX4_laidStones) (nL := 1) rfl rfl rfl (Nat.le_of_ble_eq_true rfl) ?_
  show Rn _ 1000000 0 [some (.ref b)] [] _ _
  refine w_step rfl ?_
  refine w_aload rfl ?_
  refine w_callV0I (ojT hb _).choose_spec rfl (c_X4_placesHeld hb ok) ?_
  rintro z1 t1 ⟨rfl, hp1_0, hp1_1⟩
  refine w_callS1I rfl (c_J6_bitCount_0f7a4 ok (by omega) (by omega)) ?_
  rintro z2 t2 ⟨rfl, hp2_0, hp2_1⟩
  refine w_retI rfl ?_
  exact ⟨rfl, (by omega), (by omega)⟩
set_option maxRecDepth 100000 in
set_option maxHeartbeats 4000000 in
theorem c_X4_firstEmptyIn {d : Nat} {t : TS} {b : Nat} {r : Int}  (hb : isT b) (ok : OK t) (q0 : 0 ≤ r) (q1 : r ≤ 3) : CI (EX FU (d + 1)) 53 [.ref b, .int (jI r)] (mk t) (fun z t' => t = t' ∧ (z = -1 ∨ (r * 3 ≤ z ∧ z < r * 3 + 3))) := by
  refine CI_ent (d := d + 0) (Bk := bX4_firstEmptyIn) (nL := 4) rfl rfl rfl (Nat.le_of_ble_eq_true rfl) ?_
  show Rn _ 1000000 0 [some (.ref b), some (.int (jI r)), none, none] [] _ _
  refine w_step rfl ?_
  refine w_iload rfl ?_
  refine w_push kc_3 ?_
  refine w_mul ?_
  refine w_istore (lv' := [some (.ref b), some (.int (jI r)), some (.int (jI (r * 3))), none]) rfl ?_
  refine w_iload rfl ?_
  refine w_istore (lv' := [some (.ref b), some (.int (jI r)), some (.int (jI (r * 3))), some (.int (jI (r * 3)))]) rfl ?_
  refine w_goto ?_
  have key1 : ∀ (n1 M1 : Nat) (p : Int), (r * 3 ≤ p) → (p ≤ r * 3 + 3) → 12 - p < (n1 : Int) → 60 * n1 + (1000) ≤ M1 → Rn (bX4_firstEmptyIn (EX FU (d + 0))) M1 1 [some (.ref b), some (.int (jI r)), some (.int (jI (r * 3))), some (.int (jI p))] [] (mk t) (PI (fun z t' => t = t' ∧ (z = -1 ∨ (r * 3 ≤ z ∧ z < r * 3 + 3)))) := by
    intro n1
    induction n1 with
    | zero => intro M1 p i1_0 i1_1 v1 f1; exfalso; omega
    | succ n1 ih1 =>
      intro M1 p i1_0 i1_1 v1 f1
      obtain ⟨M1, rfl⟩ : ∃ m, M1 = m + 60 := ⟨M1 - 60, by omega⟩
      refine w_step rfl ?_
      refine w_iload rfl ?_
      refine w_iload rfl ?_
      refine w_push kc_3 ?_
      refine w_add ?_
      refine w_cge (by omega) (fun h1 => ?_) (fun h1 => ?_)
      · skip
        refine w_step rfl ?_
        refine w_push kc_m1 ?_
        refine w_retI rfl ?_
        exact ⟨rfl, (by omega)⟩
      refine w_aload rfl ?_
      refine w_getR (gT_5 hb _) ?_
      refine w_iload rfl ?_
      refine w_iald (i := (p).toNat) (aiT_6 hb _) (by omega) (by omega) (aeT_6 hb _) ok (fun z2 hz2 hl2 hh2 => ?_)
      refine w_push kc_m1 ?_
      refine w_cne (by omega) (fun h3 => ?_) (fun h3 => ?_)
      · skip
        refine w_step rfl ?_
        refine w_iinc (lv' := [some (.ref b), some (.int (jI r)), some (.int (jI (r * 3))), some (.int (jI (p + 1)))]) kc_1 rfl rfl ?_
        refine w_goto ?_
        exact ih1 _ (p + 1)  (by omega) (by omega) (by omega) (by omega)
      refine w_iload rfl ?_
      refine w_retI rfl ?_
      exact ⟨rfl, (by omega)⟩
  exact key1 13 _ (r * 3)  (by omega) (by omega) (by omega) (by omega)
set_option maxRecDepth 100000 in
set_option maxHeartbeats 4000000 in
theorem c_X4_layBestAt {d : Nat} {t : TS} {b : Nat} {p : Int}  (hb : isT b) (ok : OK t) (q0 : 0 ≤ p) (q1 : p ≤ 11) : CV (EX FU (d + 3)) 54 [.ref b, .int (jI p)] (mk t) (fun t' => OK t' ∧ Fr [(b + 4, 100), (b + 5, 100), (b + 6, 100)] t t') := by
  refine CV_ent (d := d + 2) (Bk := bX4_layBestAt) (nL := 8) rfl rfl rfl (Nat.le_of_ble_eq_true rfl) ?_
  show Rn _ 1000000 0 [some (.ref b), some (.int (jI p)), none, none, none, none, none, none] [] _ _
  have fr : Fr [(b + 4, 100), (b + 5, 100), (b + 6, 100)] t t := Fr.rf _ _
  refine w_step rfl ?_
  refine w_push kc_0 ?_
  refine w_istore (lv' := [some (.ref b), some (.int (jI p)), some (.int (jI 0)), none, none, none, none, none]) rfl ?_
  refine w_push kc_m1 ?_
  refine w_istore (lv' := [some (.ref b), some (.int (jI p)), some (.int (jI 0)), some (.int (jI (-1))), none, none, none, none]) rfl ?_
  refine w_push kc_0 ?_
  refine w_istore (lv' := [some (.ref b), some (.int (jI p)), some (.int (jI 0)), some (.int (jI (-1))), some (.int (jI 0)), none, none, none]) rfl ?_
  refine w_push kc_0 ?_
  refine w_istore (lv' := [some (.ref b), some (.int (jI p)), some (.int (jI 0)), some (.int (jI (-1))), some (.int (jI 0)), some (.int (jI 0)), none, none]) rfl ?_
  refine w_goto ?_
  have key1 : ∀ (n1 M1 : Nat) (least : Int) (which : Int) (way : Int) (s : Int) (o6 : Option Int) (o7 : Option Int), (0 ≤ least) → (least ≤ 198) → (-1 ≤ which) → (which ≤ 11) → (0 ≤ way) → (way ≤ 1) → (0 ≤ s) → (s ≤ 12) → 12 - s < (n1 : Int) → 300 * n1 + (1000) ≤ M1 → Rn (bX4_layBestAt (EX FU (d + 2))) M1 1 [some (.ref b), some (.int (jI p)), some (.int (jI least)), some (.int (jI which)), some (.int (jI way)), some (.int (jI s)), dv o6, dv o7] [] (mk t) (PV (fun t' => OK t' ∧ Fr [(b + 4, 100), (b + 5, 100), (b + 6, 100)] t t')) := by
    intro n1
    induction n1 with
    | zero => intro M1 least which way s o6 o7 i1_0 i1_1 i1_2 i1_3 i1_4 i1_5 i1_6 i1_7 v1 f1; exfalso; omega
    | succ n1 ih1 =>
      intro M1 least which way s o6 o7 i1_0 i1_1 i1_2 i1_3 i1_4 i1_5 i1_6 i1_7 v1 f1
      obtain ⟨M1, rfl⟩ : ∃ m, M1 = m + 300 := ⟨M1 - 300, by omega⟩
      refine w_step rfl ?_
      refine w_iload rfl ?_
      refine w_aload rfl ?_
      refine w_getI (gT_10 hb _) (feT_10 hb) ok (fun z1 hz1 hl1 hh1 => ?_)
      refine w_cge (by omega) (fun h2 => ?_) (fun h2 => ?_)
      · skip
        refine w_step rfl ?_
        refine w_iload rfl ?_
        refine w_push kc_m1 ?_
        refine w_ceq (by omega) (fun h3 => ?_) (fun h3 => ?_)
        · skip
          refine w_step rfl ?_
          refine w_retV ?_
          exact ⟨ok, fr⟩
        refine w_aload rfl ?_
        refine w_iload rfl ?_
        refine w_iload rfl ?_
        refine w_callV2V (ojT hb _).choose_spec rfl (c_X4_moveTo hb ok (by omega) (by omega) (by omega) (by omega)) ?_
        rintro t4 ⟨ok4, fq4⟩
        have fr4 := fr.then fq4 (by simp)
        refine w_aload rfl ?_
        refine w_getR (gT_4 hb _) ?_
        refine w_iload rfl ?_
        refine w_iload rfl ?_
        refine w_iast (i := (which).toNat) (aiT_5 hb _) rfl (by omega) (by omega) (aeT_5 hb _) ok4 (by omega) (fun t5 ht5 ok5 => ?_)
        have fr5 := fr4.uA ht5 (by simp)
        refine w_goto ?_
        refine w_step rfl ?_
        refine w_retV ?_
        exact ⟨ok5, fr5⟩
      refine w_aload rfl ?_
      refine w_getR (gT_3 hb _) ?_
      refine w_iload rfl ?_
      refine w_iald (i := (s).toNat) (aiT_4 hb _) (by omega) (by omega) (aeT_4 hb _) ok (fun z6 hz6 hl6 hh6 => ?_)
      refine w_push kc_12 ?_
      refine w_ceq (by omega) (fun h7 => ?_) (fun h7 => ?_)
      · skip
        refine w_step rfl ?_
        refine w_push kc_0 ?_
        refine w_istore (lv' := [some (.ref b), some (.int (jI p)), some (.int (jI least)), some (.int (jI which)), some (.int (jI way)), some (.int (jI s)), some (.int (jI 0)), dv o7]) rfl ?_
        refine w_goto ?_
        have key3 : ∀ (n3 M3 : Nat) (least : Int) (which : Int) (way : Int) (u : Int) (o7 : Option Int), (0 ≤ least) → (least ≤ 198) → (-1 ≤ which) → (which ≤ 11) → (0 ≤ way) → (way ≤ 1) → (0 ≤ u) → (u ≤ 2) → 2 - u < (n3 : Int) → 60 * n3 + (300 * n1 + 1000) ≤ M3 → Rn (bX4_layBestAt (EX FU (d + 2))) M3 3 [some (.ref b), some (.int (jI p)), some (.int (jI least)), some (.int (jI which)), some (.int (jI way)), some (.int (jI s)), some (.int (jI u)), dv o7] [] (mk t) (PV (fun t' => OK t' ∧ Fr [(b + 4, 100), (b + 5, 100), (b + 6, 100)] t t')) := by
          intro n3
          induction n3 with
          | zero => intro M3 least which way u o7 i3_0 i3_1 i3_2 i3_3 i3_4 i3_5 i3_6 i3_7 v3 f3; exfalso; omega
          | succ n3 ih3 =>
            intro M3 least which way u o7 i3_0 i3_1 i3_2 i3_3 i3_4 i3_5 i3_6 i3_7 v3 f3
            obtain ⟨M3, rfl⟩ : ∃ m, M3 = m + 60 := ⟨M3 - 60, by omega⟩
            refine w_step rfl ?_
            refine w_iload rfl ?_
            refine w_push kc_2 ?_
            refine w_cge (by omega) (fun h8 => ?_) (fun h8 => ?_)
            · skip
              refine w_step rfl ?_
              refine w_iinc (lv' := [some (.ref b), some (.int (jI p)), some (.int (jI least)), some (.int (jI which)), some (.int (jI way)), some (.int (jI (s + 1))), some (.int (jI u)), dv o7]) kc_1 rfl rfl ?_
              refine w_goto ?_
              exact ih1 _ least which way (s + 1) (some u) o7  (by omega) (by omega) (by omega) (by omega) (by omega) (by omega) (by omega) (by omega) (by omega) (by omega)
            refine w_aload rfl ?_
            refine w_iload rfl ?_
            refine w_iload rfl ?_
            refine w_iload rfl ?_
            refine w_callV3I (ojT hb _).choose_spec rfl (c_X4_offAt hb ok (by omega) (by omega) (by omega) (by omega) (by omega) (by omega)) ?_
            rintro z9 t9 ⟨rfl, hp9_0, hp9_1⟩
            refine w_istore (lv' := [some (.ref b), some (.int (jI p)), some (.int (jI least)), some (.int (jI which)), some (.int (jI way)), some (.int (jI s)), some (.int (jI u)), some (.int (jI z9))]) rfl ?_
            refine w_iload rfl ?_
            refine w_push kc_m1 ?_
            refine w_ceq (by omega) (fun h10 => ?_) (fun h10 => ?_)
            · skip
              refine w_step rfl ?_
              refine w_iload rfl ?_
              refine w_istore (lv' := [some (.ref b), some (.int (jI p)), some (.int (jI z9)), some (.int (jI which)), some (.int (jI way)), some (.int (jI s)), some (.int (jI u)), some (.int (jI z9))]) rfl ?_
              refine w_iload rfl ?_
              refine w_istore (lv' := [some (.ref b), some (.int (jI p)), some (.int (jI z9)), some (.int (jI s)), some (.int (jI way)), some (.int (jI s)), some (.int (jI u)), some (.int (jI z9))]) rfl ?_
              refine w_iload rfl ?_
              refine w_istore (lv' := [some (.ref b), some (.int (jI p)), some (.int (jI z9)), some (.int (jI s)), some (.int (jI u)), some (.int (jI s)), some (.int (jI u)), some (.int (jI z9))]) rfl ?_
              refine w_goto ?_
              refine w_step rfl ?_
              refine w_iinc (lv' := [some (.ref b), some (.int (jI p)), some (.int (jI z9)), some (.int (jI s)), some (.int (jI u)), some (.int (jI s)), some (.int (jI (u + 1))), some (.int (jI z9))]) kc_1 rfl rfl ?_
              refine w_goto ?_
              exact ih3 _ z9 s u (u + 1) (some z9)  (by omega) (by omega) (by omega) (by omega) (by omega) (by omega) (by omega) (by omega) (by omega) (by omega)
            refine w_iload rfl ?_
            refine w_iload rfl ?_
            refine w_cge (by omega) (fun h11 => ?_) (fun h11 => ?_)
            · skip
              refine w_step rfl ?_
              refine w_iinc (lv' := [some (.ref b), some (.int (jI p)), some (.int (jI least)), some (.int (jI which)), some (.int (jI way)), some (.int (jI s)), some (.int (jI (u + 1))), some (.int (jI z9))]) kc_1 rfl rfl ?_
              refine w_goto ?_
              exact ih3 _ least which way (u + 1) (some z9)  (by omega) (by omega) (by omega) (by omega) (by omega) (by omega) (by omega) (by omega) (by omega) (by omega)
            refine w_goto ?_
            refine w_step rfl ?_
            refine w_iload rfl ?_
            refine w_istore (lv' := [some (.ref b), some (.int (jI p)), some (.int (jI z9)), some (.int (jI which)), some (.int (jI way)), some (.int (jI s)), some (.int (jI u)), some (.int (jI z9))]) rfl ?_
            refine w_iload rfl ?_
            refine w_istore (lv' := [some (.ref b), some (.int (jI p)), some (.int (jI z9)), some (.int (jI s)), some (.int (jI way)), some (.int (jI s)), some (.int (jI u)), some (.int (jI z9))]) rfl ?_
            refine w_iload rfl ?_
            refine w_istore (lv' := [some (.ref b), some (.int (jI p)), some (.int (jI z9)), some (.int (jI s)), some (.int (jI u)), some (.int (jI s)), some (.int (jI u)), some (.int (jI z9))]) rfl ?_
            refine w_goto ?_
            refine w_step rfl ?_
            refine w_iinc (lv' := [some (.ref b), some (.int (jI p)), some (.int (jI z9)), some (.int (jI s)), some (.int (jI u)), some (.int (jI s)), some (.int (jI (u + 1))), some (.int (jI z9))]) kc_1 rfl rfl ?_
            refine w_goto ?_
            exact ih3 _ z9 s u (u + 1) (some z9)  (by omega) (by omega) (by omega) (by omega) (by omega) (by omega) (by omega) (by omega) (by omega) (by omega)
        exact key3 3 _ least which way 0 o7  (by omega) (by omega) (by omega) (by omega) (by omega) (by omega) (by omega) (by omega) (by omega) (by omega)
      refine w_goto ?_
      refine w_step rfl ?_
      refine w_iinc (lv' := [some (.ref b), some (.int (jI p)), some (.int (jI least)), some (.int (jI which)), some (.int (jI way)), some (.int (jI (s + 1))), dv o6, dv o7]) kc_1 rfl rfl ?_
      refine w_goto ?_
      exact ih1 _ least which way (s + 1) o6 o7  (by omega) (by omega) (by omega) (by omega) (by omega) (by omega) (by omega) (by omega) (by omega) (by omega)
  exact key1 13 _ 0 (-1) 0 0 none none  (by omega) (by omega) (by omega) (by omega) (by omega) (by omega) (by omega) (by omega) (by omega) (by omega)
set_option maxRecDepth 100000 in
set_option maxHeartbeats 4000000 in
theorem c_X4_turnAt {d : Nat} {t : TS} {b : Nat} {p : Int}  (hb : isT b) (ok : OK t) (q0 : 0 ≤ p) (q1 : p ≤ 11) : CV (EX FU (d + 1)) 55 [.ref b, .int (jI p)] (mk t) (fun t' => OK t' ∧ Fr [(b + 5, 100)] t t') := by
  refine CV_ent (d := d + 0) (Bk := bX4_turnAt) (nL := 3) rfl rfl rfl (Nat.le_of_ble_eq_true rfl) ?_
  show Rn _ 1000000 0 [some (.ref b), some (.int (jI p)), none] [] _ _
  have fr : Fr [(b + 5, 100)] t t := Fr.rf _ _
  refine w_step rfl ?_
  refine w_aload rfl ?_
  refine w_getR (gT_5 hb _) ?_
  refine w_iload rfl ?_
  refine w_iald (i := (p).toNat) (aiT_6 hb _) (by omega) (by omega) (aeT_6 hb _) ok (fun z1 hz1 hl1 hh1 => ?_)
  refine w_istore (lv' := [some (.ref b), some (.int (jI p)), some (.int (jI z1))]) rfl ?_
  refine w_iload rfl ?_
  refine w_push kc_m1 ?_
  refine w_ceq (by omega) (fun h2 => ?_) (fun h2 => ?_)
  · skip
    refine w_step rfl ?_
    refine w_retV ?_
    exact ⟨ok, fr⟩
  refine w_aload rfl ?_
  refine w_getR (gT_4 hb _) ?_
  refine w_iload rfl ?_
  refine w_push kc_1 ?_
  refine w_aload rfl ?_
  refine w_getR (gT_4 hb _) ?_
  refine w_iload rfl ?_
  refine w_iald (i := (z1).toNat) (aiT_5 hb _) (by omega) (by omega) (aeT_5 hb _) ok (fun z3 hz3 hl3 hh3 => ?_)
  refine w_sub ?_
  refine w_iast (i := (z1).toNat) (aiT_5 hb _) rfl (by omega) (by omega) (aeT_5 hb _) ok (by omega) (fun t4 ht4 ok4 => ?_)
  have fr4 := fr.uA ht4 (by simp)
  refine w_goto ?_
  refine w_step rfl ?_
  refine w_retV ?_
  exact ⟨ok4, fr4⟩
set_option maxRecDepth 100000 in
set_option maxHeartbeats 4000000 in
theorem c_X4_passDay {d : Nat} {t : TS} {b : Nat}  (hb : isT b) (ok : OK t) : CV (EX FU (d + 4)) 52 [.ref b] (mk t) (fun t' => OK t' ∧ Fr [(b, 13), (b, 14), (b + 4, 100), (b + 5, 100), (b + 6, 100)] t t' ∧ (tI t' b 14 = zdF (tI t b 14) (tI t b 12)) ∧ (0 ≤ tI t b 13 → tI t b 13 ≤ 1000000 → tI t' b 13 = tI t b 13 + 1)) := by
  refine CV_ent (d := d + 3) (Bk := bX4_passDay) (nL := 2) rfl rfl rfl (Nat.le_of_ble_eq_true rfl) ?_
  show Rn _ 1000000 0 [some (.ref b), none] [] _ _
  have fr : Fr [(b, 13), (b, 14), (b + 4, 100), (b + 5, 100), (b + 6, 100)] t t := Fr.rf _ _
  have eb : tI t b 12 = tI t b 12 := rfl
  have ec : tI t b 13 = tI t b 13 := rfl
  refine w_step rfl ?_
  refine w_aload rfl ?_
  refine w_aload rfl ?_
  refine w_callV0I (ojT hb _).choose_spec rfl (c_X4_draw hb ok) ?_
  rintro z1 t1 ⟨ok1, fq1, hp1_0, hp1_1, hp1_2, hp1_3⟩
  have fr1 := fr.then fq1 (by simp)
  have ea : tI t1 b 14 = znF (tI t b 14) := hp1_0
  have eb : tI t1 b 12 = tI t b 12 := (fq1.1 b 12 (by simp)).trans eb
  have ec : tI t1 b 13 = tI t b 13 := (fq1.1 b 13 (by simp)).trans ec
  refine w_push kc_4 ?_
  refine w_rem (by omega) ?_
  refine w_callV1I (ojT hb _).choose_spec rfl (c_X4_firstEmptyIn hb ok1 (by omega) (by omega)) ?_
  rintro z2 t2 ⟨rfl, hp2_0⟩
  refine w_istore (lv' := [some (.ref b), some (.int (jI z2))]) rfl ?_
  refine w_iload rfl ?_
  refine w_push kc_m1 ?_
  refine w_ceq (by omega) (fun h3 => ?_) (fun h3 => ?_)
  · skip
    refine w_step rfl ?_
    refine w_aload rfl ?_
    refine w_callV0I (ojT hb _).choose_spec rfl (c_X4_draw hb ok1) ?_
    rintro z4 t4 ⟨ok4, fq4, hp4_0, hp4_1, hp4_2, hp4_3⟩
    have fr4 := fr1.then fq4 (by simp)
    have ev : z4 = drF (znF (znF (tI t b 14))) := by rw [hp4_1, ea]
    have ea : tI t4 b 14 = znF (znF (tI t b 14)) := by rw [hp4_0, ea]
    have eb : tI t4 b 12 = tI t b 12 := (fq4.1 b 12 (by simp)).trans eb
    have ec : tI t4 b 13 = tI t b 13 := (fq4.1 b 13 (by simp)).trans ec
    refine w_push kc_100 ?_
    refine w_rem (by omega) ?_
    refine w_aload rfl ?_
    refine w_getI (gT_12 hb _) (feT_12 hb) ok4 (fun z5 hz5 hl5 hh5 => ?_)
    have ew : z5 = tI t b 12 := by rw [hz5, eb]
    refine w_cge (by omega) (fun h6 => ?_) (fun h6 => ?_)
    · skip
      refine w_step rfl ?_
      refine w_aload rfl ?_
      refine w_dupR ?_
      refine w_getI (gT_13 hb _) (feT_13 hb) ok4 (fun z7 hz7 hl7 hh7 => ?_)
      refine w_push kc_1 ?_
      refine w_addW (fun z8 hz8 hl8 hh8 => ?_)
      refine w_putI (pT_13 hb _) (feT_13 hb) ok4 (by omega) (fun t9 ht9 ok9 => ?_)
      have fr9 := fr4.uI ht9 (by simp)
      refine w_retV ?_
      exact ⟨ok9, fr9, (by rw [ht9, tI_uI, if_neg (by simp), ea]; unfold zdF; rw [← ev, ← ew]; first | rw [if_pos (by omega)] | rw [if_neg (by omega)]), (by intro h0 h1; rw [ht9, tI_uI, if_pos ⟨rfl, rfl⟩, hz8, nrm_id (by omega)]; omega)⟩
    refine w_aload rfl ?_
    refine w_aload rfl ?_
    refine w_callV0I (ojT hb _).choose_spec rfl (c_X4_draw hb ok4) ?_
    rintro z10 t10 ⟨ok10, fq10, hp10_0, hp10_1, hp10_2, hp10_3⟩
    have fr10 := fr4.then fq10 (by simp)
    have ea : tI t10 b 14 = znF (znF (znF (tI t b 14))) := by rw [hp10_0, ea]
    have eb : tI t10 b 12 = tI t b 12 := (fq10.1 b 12 (by simp)).trans eb
    have ec : tI t10 b 13 = tI t b 13 := (fq10.1 b 13 (by simp)).trans ec
    refine w_push kc_12 ?_
    refine w_rem (by omega) ?_
    refine w_callV1V (ojT hb _).choose_spec rfl (c_X4_turnAt hb ok10 (by omega) (by omega)) ?_
    rintro t11 ⟨ok11, fq11⟩
    have fr11 := fr10.then fq11 (by simp)
    have ea : tI t11 b 14 = znF (znF (znF (tI t b 14))) := (fq11.1 b 14 (by simp)).trans ea
    have eb : tI t11 b 12 = tI t b 12 := (fq11.1 b 12 (by simp)).trans eb
    have ec : tI t11 b 13 = tI t b 13 := (fq11.1 b 13 (by simp)).trans ec
    refine w_goto ?_
    refine w_step rfl ?_
    refine w_aload rfl ?_
    refine w_dupR ?_
    refine w_getI (gT_13 hb _) (feT_13 hb) ok11 (fun z12 hz12 hl12 hh12 => ?_)
    refine w_push kc_1 ?_
    refine w_addW (fun z13 hz13 hl13 hh13 => ?_)
    refine w_putI (pT_13 hb _) (feT_13 hb) ok11 (by omega) (fun t14 ht14 ok14 => ?_)
    have fr14 := fr11.uI ht14 (by simp)
    refine w_retV ?_
    exact ⟨ok14, fr14, (by rw [ht14, tI_uI, if_neg (by simp), ea]; unfold zdF; rw [← ev, ← ew]; first | rw [if_pos (by omega)] | rw [if_neg (by omega)]), (by intro h0 h1; rw [ht14, tI_uI, if_pos ⟨rfl, rfl⟩, hz13, nrm_id (by omega)]; omega)⟩
  refine w_aload rfl ?_
  refine w_iload rfl ?_
  refine w_callV1V (ojT hb _).choose_spec rfl (c_X4_layBestAt hb ok1 (by omega) (by omega)) ?_
  rintro t15 ⟨ok15, fq15⟩
  have fr15 := fr1.then fq15 (by simp)
  have ea : tI t15 b 14 = znF (tI t b 14) := (fq15.1 b 14 (by simp)).trans ea
  have eb : tI t15 b 12 = tI t b 12 := (fq15.1 b 12 (by simp)).trans eb
  have ec : tI t15 b 13 = tI t b 13 := (fq15.1 b 13 (by simp)).trans ec
  refine w_goto ?_
  refine w_step rfl ?_
  refine w_aload rfl ?_
  refine w_callV0I (ojT hb _).choose_spec rfl (c_X4_draw hb ok15) ?_
  rintro z16 t16 ⟨ok16, fq16, hp16_0, hp16_1, hp16_2, hp16_3⟩
  have fr16 := fr15.then fq16 (by simp)
  have ev : z16 = drF (znF (znF (tI t b 14))) := by rw [hp16_1, ea]
  have ea : tI t16 b 14 = znF (znF (tI t b 14)) := by rw [hp16_0, ea]
  have eb : tI t16 b 12 = tI t b 12 := (fq16.1 b 12 (by simp)).trans eb
  have ec : tI t16 b 13 = tI t b 13 := (fq16.1 b 13 (by simp)).trans ec
  refine w_push kc_100 ?_
  refine w_rem (by omega) ?_
  refine w_aload rfl ?_
  refine w_getI (gT_12 hb _) (feT_12 hb) ok16 (fun z17 hz17 hl17 hh17 => ?_)
  have ew : z17 = tI t b 12 := by rw [hz17, eb]
  refine w_cge (by omega) (fun h18 => ?_) (fun h18 => ?_)
  · skip
    refine w_step rfl ?_
    refine w_aload rfl ?_
    refine w_dupR ?_
    refine w_getI (gT_13 hb _) (feT_13 hb) ok16 (fun z19 hz19 hl19 hh19 => ?_)
    refine w_push kc_1 ?_
    refine w_addW (fun z20 hz20 hl20 hh20 => ?_)
    refine w_putI (pT_13 hb _) (feT_13 hb) ok16 (by omega) (fun t21 ht21 ok21 => ?_)
    have fr21 := fr16.uI ht21 (by simp)
    refine w_retV ?_
    exact ⟨ok21, fr21, (by rw [ht21, tI_uI, if_neg (by simp), ea]; unfold zdF; rw [← ev, ← ew]; first | rw [if_pos (by omega)] | rw [if_neg (by omega)]), (by intro h0 h1; rw [ht21, tI_uI, if_pos ⟨rfl, rfl⟩, hz20, nrm_id (by omega)]; omega)⟩
  refine w_aload rfl ?_
  refine w_aload rfl ?_
  refine w_callV0I (ojT hb _).choose_spec rfl (c_X4_draw hb ok16) ?_
  rintro z22 t22 ⟨ok22, fq22, hp22_0, hp22_1, hp22_2, hp22_3⟩
  have fr22 := fr16.then fq22 (by simp)
  have ea : tI t22 b 14 = znF (znF (znF (tI t b 14))) := by rw [hp22_0, ea]
  have eb : tI t22 b 12 = tI t b 12 := (fq22.1 b 12 (by simp)).trans eb
  have ec : tI t22 b 13 = tI t b 13 := (fq22.1 b 13 (by simp)).trans ec
  refine w_push kc_12 ?_
  refine w_rem (by omega) ?_
  refine w_callV1V (ojT hb _).choose_spec rfl (c_X4_turnAt hb ok22 (by omega) (by omega)) ?_
  rintro t23 ⟨ok23, fq23⟩
  have fr23 := fr22.then fq23 (by simp)
  have ea : tI t23 b 14 = znF (znF (znF (tI t b 14))) := (fq23.1 b 14 (by simp)).trans ea
  have eb : tI t23 b 12 = tI t b 12 := (fq23.1 b 12 (by simp)).trans eb
  have ec : tI t23 b 13 = tI t b 13 := (fq23.1 b 13 (by simp)).trans ec
  refine w_goto ?_
  refine w_step rfl ?_
  refine w_aload rfl ?_
  refine w_dupR ?_
  refine w_getI (gT_13 hb _) (feT_13 hb) ok23 (fun z24 hz24 hl24 hh24 => ?_)
  refine w_push kc_1 ?_
  refine w_addW (fun z25 hz25 hl25 hh25 => ?_)
  refine w_putI (pT_13 hb _) (feT_13 hb) ok23 (by omega) (fun t26 ht26 ok26 => ?_)
  have fr26 := fr23.uI ht26 (by simp)
  refine w_retV ?_
  exact ⟨ok26, fr26, (by rw [ht26, tI_uI, if_neg (by simp), ea]; unfold zdF; rw [← ev, ← ew]; first | rw [if_pos (by omega)] | rw [if_neg (by omega)]), (by intro h0 h1; rw [ht26, tI_uI, if_pos ⟨rfl, rfl⟩, hz25, nrm_id (by omega)]; omega)⟩
set_option maxRecDepth 100000 in
set_option maxHeartbeats 4000000 in
theorem c_X4_passDays {d : Nat} {t : TS} {b : Nat} {n : Int}  (hb : isT b) (ok : OK t) (q0 : -2147483648 ≤ n) (q1 : n ≤ 2147483647) (q2 : n ≤ 1000) : CV (EX FU (d + 5)) 51 [.ref b, .int (jI n)] (mk t) (fun t' => OK t' ∧ Fr [(b, 13), (b, 14), (b + 4, 100), (b + 5, 100), (b + 6, 100)] t t' ∧ (tI t' b 14 = zdsF n.toNat (tI t b 14) (tI t b 12)) ∧ (0 ≤ n → 0 ≤ tI t b 13 → tI t b 13 + n ≤ 1000000 → tI t' b 13 = tI t b 13 + n)) := by
  refine CV_ent (d := d + 4) (Bk := bX4_passDays) (nL := 3) rfl rfl rfl (Nat.le_of_ble_eq_true rfl) ?_
  show Rn _ 1000000 0 [some (.ref b), some (.int (jI n)), none] [] _ _
  have fr : Fr [(b, 13), (b, 14), (b + 4, 100), (b + 5, 100), (b + 6, 100)] t t := Fr.rf _ _
  refine w_step rfl ?_
  refine w_push kc_0 ?_
  refine w_istore (lv' := [some (.ref b), some (.int (jI n)), some (.int (jI 0))]) rfl ?_
  refine w_goto ?_
  have key1 : ∀ (n1 M1 : Nat) (i : Int) (t1 : TS), OK t1 → Fr [(b, 13), (b, 14), (b + 4, 100), (b + 5, 100), (b + 6, 100)] t t1 → (0 ≤ i) → (i ≤ 1000) → (i ≤ n ∨ i = 0) → (tI t1 b 12 = tI t b 12) → (tI t1 b 14 = zdsF i.toNat (tI t b 14) (tI t b 12)) → (0 ≤ tI t b 13 → tI t b 13 + n ≤ 1000000 → tI t1 b 13 = tI t b 13 + i) → 1000 - i < (n1 : Int) → 60 * n1 + (1000) ≤ M1 → Rn (bX4_passDays (EX FU (d + 4))) M1 1 [some (.ref b), some (.int (jI n)), some (.int (jI i))] [] (mk t1) (PV (fun t' => OK t' ∧ Fr [(b, 13), (b, 14), (b + 4, 100), (b + 5, 100), (b + 6, 100)] t t' ∧ (tI t' b 14 = zdsF n.toNat (tI t b 14) (tI t b 12)) ∧ (0 ≤ n → 0 ≤ tI t b 13 → tI t b 13 + n ≤ 1000000 → tI t' b 13 = tI t b 13 + n))) := by
    intro n1
    induction n1 with
    | zero => intro M1 i t1 ok1 fr1 i1_0 i1_1 i1_2 i1_3 i1_4 i1_5 v1 f1; exfalso; omega
    | succ n1 ih1 =>
      intro M1 i t1 ok1 fr1 i1_0 i1_1 i1_2 i1_3 i1_4 i1_5 v1 f1
      obtain ⟨M1, rfl⟩ : ∃ m, M1 = m + 60 := ⟨M1 - 60, by omega⟩
      refine w_step rfl ?_
      refine w_iload rfl ?_
      refine w_iload rfl ?_
      refine w_cge (by omega) (fun h2 => ?_) (fun h2 => ?_)
      · skip
        refine w_step rfl ?_
        refine w_retV ?_
        exact ⟨ok1, fr1, (by rw [i1_4, show n.toNat = i.toNat by omega]), (by intro h h0 h1; have e1 := i1_5 h0 h1; omega)⟩
      refine w_aload rfl ?_
      refine w_callV0V (ojT hb _).choose_spec rfl (c_X4_passDay hb ok1) ?_
      rintro t3 ⟨ok3, fq3, hp3_0, hp3_1⟩
      have fr3 := fr1.then fq3 (by simp)
      have ez : tI t3 b 14 = zdsF (i + 1).toNat (tI t b 14) (tI t b 12) := by rw [hp3_0, i1_4, i1_3, show (i + 1).toNat = i.toNat + 1 by omega]; rfl
      have ed := hp3_1
      refine w_iinc (lv' := [some (.ref b), some (.int (jI n)), some (.int (jI (i + 1)))]) kc_1 rfl rfl ?_
      refine w_goto ?_
      exact ih1 _ (i + 1) t3 ok3 fr3 (by omega) (by omega) (by omega) (fr3.1 b 12 (by simp)) ez (by intro h0 h1; have e1 := i1_5 h0 h1; have e2 := ed (by omega) (by omega); omega) (by omega) (by omega)
  exact key1 1001 _ 0 t ok fr (by omega) (by omega) (by omega) rfl rfl (by intro _ _; omega) (by omega) (by omega)
set_option maxRecDepth 100000 in
set_option maxHeartbeats 4000000 in
theorem c_X4_gainOfChange {d : Nat} {t : TS} {b : Nat} {x y : Int}  (hb : isT b) (ok : OK t) (q0 : 0 ≤ x) (q1 : x ≤ 11) (q2 : 0 ≤ y) (q3 : y ≤ 11) : CI (EX FU (d + 3)) 56 [.ref b, .int (jI x), .int (jI y)] (mk t) (fun z t' => t = t' ∧ (-396 ≤ z) ∧ (z ≤ 396)) := by
  refine CI_ent (d := d + 2) (Bk := bX4_gainOfChange) (nL := 5) rfl rfl rfl (Nat.le_of_ble_eq_true rfl) ?_
  show Rn _ 1000000 0 [some (.ref b), some (.int (jI x)), some (.int (jI y)), none, none] [] _ _
  refine w_step rfl ?_
  refine w_aload rfl ?_
  refine w_iload rfl ?_
  refine w_callV1I (ojT hb _).choose_spec rfl (c_X4_isLaid hb ok (by omega) (by omega)) ?_
  rintro z1 t1 ⟨rfl, hp1_0⟩
  rcases hp1_0 with ⟨rfl, hp1_0⟩ | ⟨rfl, hp1_0⟩
  · skip
    refine w_ieq (by omega) (fun _ => ?_) (fun h => absurd (by omega) h)
    refine w_step rfl ?_
    refine w_push kc_0 ?_
    refine w_retI rfl ?_
    exact ⟨rfl, (by omega), (by omega)⟩
  refine w_ieq (by omega) (fun h => absurd h (by omega)) (fun _ => ?_)
  refine w_aload rfl ?_
  refine w_iload rfl ?_
  refine w_callV1I (ojT hb _).choose_spec rfl (c_X4_isLaid hb ok (by omega) (by omega)) ?_
  rintro z2 t2 ⟨rfl, hp2_0⟩
  rcases hp2_0 with ⟨rfl, hp2_0⟩ | ⟨rfl, hp2_0⟩
  · skip
    refine w_ine (by omega) (fun h => absurd h (by omega)) (fun _ => ?_)
    refine w_goto ?_
    refine w_step rfl ?_
    refine w_push kc_0 ?_
    refine w_retI rfl ?_
    exact ⟨rfl, (by omega), (by omega)⟩
  refine w_ine (by omega) (fun _ => ?_) (fun h => absurd (by omega) h)
  refine w_step rfl ?_
  refine w_aload rfl ?_
  refine w_iload rfl ?_
  refine w_aload rfl ?_
  refine w_getR (gT_3 hb _) ?_
  refine w_iload rfl ?_
  refine w_iald (i := (x).toNat) (aiT_4 hb _) (by omega) (by omega) (aeT_4 hb _) ok (fun z3 hz3 hl3 hh3 => ?_)
  refine w_aload rfl ?_
  refine w_getR (gT_4 hb _) ?_
  refine w_iload rfl ?_
  refine w_iald (i := (x).toNat) (aiT_5 hb _) (by omega) (by omega) (aeT_5 hb _) ok (fun z4 hz4 hl4 hh4 => ?_)
  refine w_callV3I (ojT hb _).choose_spec rfl (c_X4_offAt hb ok (by omega) (by omega) (by omega) (by omega) (by omega) (by omega)) ?_
  rintro z5 t5 ⟨rfl, hp5_0, hp5_1⟩
  refine w_aload rfl ?_
  refine w_iload rfl ?_
  refine w_aload rfl ?_
  refine w_getR (gT_3 hb _) ?_
  refine w_iload rfl ?_
  refine w_iald (i := (y).toNat) (aiT_4 hb _) (by omega) (by omega) (aeT_4 hb _) ok (fun z6 hz6 hl6 hh6 => ?_)
  refine w_aload rfl ?_
  refine w_getR (gT_4 hb _) ?_
  refine w_iload rfl ?_
  refine w_iald (i := (y).toNat) (aiT_5 hb _) (by omega) (by omega) (aeT_5 hb _) ok (fun z7 hz7 hl7 hh7 => ?_)
  refine w_callV3I (ojT hb _).choose_spec rfl (c_X4_offAt hb ok (by omega) (by omega) (by omega) (by omega) (by omega) (by omega)) ?_
  rintro z8 t8 ⟨rfl, hp8_0, hp8_1⟩
  refine w_add ?_
  refine w_istore (lv' := [some (.ref b), some (.int (jI x)), some (.int (jI y)), some (.int (jI (z5 + z8))), none]) rfl ?_
  refine w_aload rfl ?_
  refine w_iload rfl ?_
  refine w_aload rfl ?_
  refine w_getR (gT_3 hb _) ?_
  refine w_iload rfl ?_
  refine w_iald (i := (y).toNat) (aiT_4 hb _) (by omega) (by omega) (aeT_4 hb _) ok (fun z9 hz9 hl9 hh9 => ?_)
  refine w_aload rfl ?_
  refine w_getR (gT_4 hb _) ?_
  refine w_iload rfl ?_
  refine w_iald (i := (x).toNat) (aiT_5 hb _) (by omega) (by omega) (aeT_5 hb _) ok (fun z10 hz10 hl10 hh10 => ?_)
  refine w_callV3I (ojT hb _).choose_spec rfl (c_X4_offAt hb ok (by omega) (by omega) (by omega) (by omega) (by omega) (by omega)) ?_
  rintro z11 t11 ⟨rfl, hp11_0, hp11_1⟩
  refine w_aload rfl ?_
  refine w_iload rfl ?_
  refine w_aload rfl ?_
  refine w_getR (gT_3 hb _) ?_
  refine w_iload rfl ?_
  refine w_iald (i := (x).toNat) (aiT_4 hb _) (by omega) (by omega) (aeT_4 hb _) ok (fun z12 hz12 hl12 hh12 => ?_)
  refine w_aload rfl ?_
  refine w_getR (gT_4 hb _) ?_
  refine w_iload rfl ?_
  refine w_iald (i := (y).toNat) (aiT_5 hb _) (by omega) (by omega) (aeT_5 hb _) ok (fun z13 hz13 hl13 hh13 => ?_)
  refine w_callV3I (ojT hb _).choose_spec rfl (c_X4_offAt hb ok (by omega) (by omega) (by omega) (by omega) (by omega) (by omega)) ?_
  rintro z14 t14 ⟨rfl, hp14_0, hp14_1⟩
  refine w_add ?_
  refine w_istore (lv' := [some (.ref b), some (.int (jI x)), some (.int (jI y)), some (.int (jI (z5 + z8))), some (.int (jI (z11 + z14)))]) rfl ?_
  refine w_iload rfl ?_
  refine w_iload rfl ?_
  refine w_sub ?_
  refine w_retI rfl ?_
  exact ⟨rfl, (by omega), (by omega)⟩
set_option maxRecDepth 100000 in
set_option maxHeartbeats 4000000 in
theorem c_X4_fallFrom {d : Nat} {t : TS} {b : Nat} {p : Int}  (hb : isT b) (ok : OK t) (q0 : 0 ≤ p) (q1 : p ≤ 11) : CI (EX FU (d + 3)) 57 [.ref b, .int (jI p)] (mk t) (fun z t' => t = t' ∧ (0 ≤ z) ∧ (z ≤ 12)) := by
  refine CI_ent (d := d + 2) (Bk := bX4_fallFrom) (nL := 6) rfl rfl rfl (Nat.le_of_ble_eq_true rfl) ?_
  show Rn _ 1000000 0 [some (.ref b), some (.int (jI p)), none, none, none, none] [] _ _
  refine w_step rfl ?_
  refine w_push kc_0 ?_
  refine w_istore (lv' := [some (.ref b), some (.int (jI p)), some (.int (jI 0)), none, none, none]) rfl ?_
  refine w_push kc_0 ?_
  refine w_istore (lv' := [some (.ref b), some (.int (jI p)), some (.int (jI 0)), some (.int (jI 0)), none, none]) rfl ?_
  refine w_iload rfl ?_
  refine w_istore (lv' := [some (.ref b), some (.int (jI p)), some (.int (jI 0)), some (.int (jI 0)), some (.int (jI p)), none]) rfl ?_
  refine w_goto ?_
  have key1 : ∀ (n1 M1 : Nat) (n : Int) (w : Int) (i : Int) (o5 : Option Int), (p ≤ i) → (i ≤ 12) → (0 ≤ n) → (n ≤ i) → (0 ≤ w) → (w ≤ 28) → 12 - i < (n1 : Int) → 60 * n1 + (1000) ≤ M1 → Rn (bX4_fallFrom (EX FU (d + 2))) M1 1 [some (.ref b), some (.int (jI p)), some (.int (jI n)), some (.int (jI w)), some (.int (jI i)), dv o5] [] (mk t) (PI (fun z t' => t = t' ∧ (0 ≤ z) ∧ (z ≤ 12))) := by
    intro n1
    induction n1 with
    | zero => intro M1 n w i o5 i1_0 i1_1 i1_2 i1_3 i1_4 i1_5 v1 f1; exfalso; omega
    | succ n1 ih1 =>
      intro M1 n w i o5 i1_0 i1_1 i1_2 i1_3 i1_4 i1_5 v1 f1
      obtain ⟨M1, rfl⟩ : ∃ m, M1 = m + 60 := ⟨M1 - 60, by omega⟩
      refine w_step rfl ?_
      refine w_iload rfl ?_
      refine w_push kc_12 ?_
      refine w_cge (by omega) (fun h1 => ?_) (fun h1 => ?_)
      · skip
        refine w_step rfl ?_
        refine w_iload rfl ?_
        refine w_retI rfl ?_
        exact ⟨rfl, (by omega), (by omega)⟩
      refine w_aload rfl ?_
      refine w_getR (gT_5 hb _) ?_
      refine w_iload rfl ?_
      refine w_iald (i := (i).toNat) (aiT_6 hb _) (by omega) (by omega) (aeT_6 hb _) ok (fun z2 hz2 hl2 hh2 => ?_)
      refine w_push kc_m1 ?_
      refine w_cne (by omega) (fun h3 => ?_) (fun h3 => ?_)
      · skip
        refine w_step rfl ?_
        refine w_aload rfl ?_
        refine w_aload rfl ?_
        refine w_getR (gT_5 hb _) ?_
        refine w_iload rfl ?_
        refine w_iald (i := (i).toNat) (aiT_6 hb _) (by omega) (by omega) (aeT_6 hb _) ok (fun z4 hz4 hl4 hh4 => ?_)
        refine w_callV1I (ojT hb _).choose_spec rfl (c_X4_heavy hb ok (by omega) (by omega)) ?_
        rintro z5 t5 ⟨rfl, hp5_0, hp5_1, hp5_2⟩
        refine w_istore (lv' := [some (.ref b), some (.int (jI p)), some (.int (jI n)), some (.int (jI w)), some (.int (jI i)), some (.int (jI z5))]) rfl ?_
        refine w_iload rfl ?_
        refine w_ile (by omega) (fun h6 => ?_) (fun h6 => ?_)
        · skip
          refine w_step rfl ?_
          refine w_iload rfl ?_
          refine w_istore (lv' := [some (.ref b), some (.int (jI p)), some (.int (jI n)), some (.int (jI z5)), some (.int (jI i)), some (.int (jI z5))]) rfl ?_
          refine w_iinc (lv' := [some (.ref b), some (.int (jI p)), some (.int (jI (n + 1))), some (.int (jI z5)), some (.int (jI i)), some (.int (jI z5))]) kc_1 rfl rfl ?_
          refine w_iinc (lv' := [some (.ref b), some (.int (jI p)), some (.int (jI (n + 1))), some (.int (jI z5)), some (.int (jI (i + 1))), some (.int (jI z5))]) kc_1 rfl rfl ?_
          refine w_goto ?_
          exact ih1 _ (n + 1) z5 (i + 1) (some z5)  (by omega) (by omega) (by omega) (by omega) (by omega) (by omega) (by omega) (by omega)
        refine w_iload rfl ?_
        refine w_push kc_2 ?_
        refine w_iload rfl ?_
        refine w_mul ?_
        refine w_cle (by omega) (fun h7 => ?_) (fun h7 => ?_)
        · skip
          refine w_step rfl ?_
          refine w_iload rfl ?_
          refine w_istore (lv' := [some (.ref b), some (.int (jI p)), some (.int (jI n)), some (.int (jI z5)), some (.int (jI i)), some (.int (jI z5))]) rfl ?_
          refine w_iinc (lv' := [some (.ref b), some (.int (jI p)), some (.int (jI (n + 1))), some (.int (jI z5)), some (.int (jI i)), some (.int (jI z5))]) kc_1 rfl rfl ?_
          refine w_iinc (lv' := [some (.ref b), some (.int (jI p)), some (.int (jI (n + 1))), some (.int (jI z5)), some (.int (jI (i + 1))), some (.int (jI z5))]) kc_1 rfl rfl ?_
          refine w_goto ?_
          exact ih1 _ (n + 1) z5 (i + 1) (some z5)  (by omega) (by omega) (by omega) (by omega) (by omega) (by omega) (by omega) (by omega)
        refine w_iload rfl ?_
        refine w_retI rfl ?_
        exact ⟨rfl, (by omega), (by omega)⟩
      refine w_iload rfl ?_
      refine w_retI rfl ?_
      exact ⟨rfl, (by omega), (by omega)⟩
  exact key1 13 _ 0 0 p none  (by omega) (by omega) (by omega) (by omega) (by omega) (by omega) (by omega) (by omega)
set_option maxRecDepth 100000 in
set_option maxHeartbeats 4000000 in
theorem c_X4_darkOfCell {d : Nat} {t : TS} {b : Nat} {c : Int}  (hb : isT b) (ok : OK t) (q0 : 0 ≤ c) (q1 : c ≤ 23) : CI (EX FU (d + 2)) 59 [.ref b, .int (jI c)] (mk t) (fun z t' => t = t' ∧ (0 ≤ z) ∧ (z ≤ 99)) := by
  refine CI_ent (d := d + 1) (Bk := bX4_darkOfCell) (nL := 5) rfl rfl rfl (Nat.le_of_ble_eq_true rfl) ?_
  show Rn _ 1000000 0 [some (.ref b), some (.int (jI c)), none, none, none] [] _ _
  refine w_step rfl ?_
  refine w_iload rfl ?_
  refine w_push kc_2 ?_
  refine w_div (by omega) ?_
  refine w_istore (lv' := [some (.ref b), some (.int (jI c)), some (.int (jI (c / 2))), none, none]) rfl ?_
  refine w_aload rfl ?_
  refine w_getR (gT_5 hb _) ?_
  refine w_iload rfl ?_
  refine w_iald (i := ((c / 2)).toNat) (aiT_6 hb _) (by omega) (by omega) (aeT_6 hb _) ok (fun z1 hz1 hl1 hh1 => ?_)
  refine w_istore (lv' := [some (.ref b), some (.int (jI c)), some (.int (jI (c / 2))), some (.int (jI z1)), none]) rfl ?_
  refine w_iload rfl ?_
  refine w_push kc_m1 ?_
  refine w_cne (by omega) (fun h2 => ?_) (fun h2 => ?_)
  · skip
    refine w_step rfl ?_
    refine w_iload rfl ?_
    refine w_push kc_2 ?_
    refine w_rem (by omega) ?_
    refine w_aload rfl ?_
    refine w_getR (gT_4 hb _) ?_
    refine w_iload rfl ?_
    refine w_iald (i := (z1).toNat) (aiT_5 hb _) (by omega) (by omega) (aeT_5 hb _) ok (fun z3 hz3 hl3 hh3 => ?_)
    refine w_cne (by omega) (fun h4 => ?_) (fun h4 => ?_)
    · skip
      refine w_step rfl ?_
      refine w_push kc_1 ?_
      refine w_goto ?_
      refine w_step rfl ?_
      refine w_istore (lv' := [some (.ref b), some (.int (jI c)), some (.int (jI (c / 2))), some (.int (jI z1)), some (.int (jI 1))]) rfl ?_
      refine w_aload rfl ?_
      refine w_getR (gT_7 hb _) ?_
      refine w_iload rfl ?_
      refine w_iload rfl ?_
      refine w_push kc_3 ?_
      refine w_div (by omega) ?_
      refine w_iload rfl ?_
      refine w_callS3I rfl (c_X4_darkAt ok (by omega) (by omega) (by omega) (by omega) (by omega) (by omega)) ?_
      rintro z5 t5 ⟨rfl, hp5_0⟩
      refine w_iald (i := (z5).toNat) (aiT_8 hb _) (by omega) (by omega) (aeT_8 hb _) ok (fun z6 hz6 hl6 hh6 => ?_)
      refine w_retI rfl ?_
      exact ⟨rfl, (by omega), (by omega)⟩
    refine w_push kc_0 ?_
    refine w_goto ?_
    refine w_step rfl ?_
    refine w_istore (lv' := [some (.ref b), some (.int (jI c)), some (.int (jI (c / 2))), some (.int (jI z1)), some (.int (jI 0))]) rfl ?_
    refine w_aload rfl ?_
    refine w_getR (gT_7 hb _) ?_
    refine w_iload rfl ?_
    refine w_iload rfl ?_
    refine w_push kc_3 ?_
    refine w_div (by omega) ?_
    refine w_iload rfl ?_
    refine w_callS3I rfl (c_X4_darkAt ok (by omega) (by omega) (by omega) (by omega) (by omega) (by omega)) ?_
    rintro z7 t7 ⟨rfl, hp7_0⟩
    refine w_iald (i := (z7).toNat) (aiT_8 hb _) (by omega) (by omega) (aeT_8 hb _) ok (fun z8 hz8 hl8 hh8 => ?_)
    refine w_retI rfl ?_
    exact ⟨rfl, (by omega), (by omega)⟩
  refine w_push kc_0 ?_
  refine w_retI rfl ?_
  exact ⟨rfl, (by omega), (by omega)⟩
set_option maxRecDepth 100000 in
set_option maxHeartbeats 4000000 in
theorem c_X2_isNumber {d : Nat} {t : TS} {b : Nat} {p : Int}  (hb : isH b) (ok : OK t) (q0 : -2147483648 ≤ p) (q1 : p ≤ 2147483647) : CI (EX FU (d + 2)) 25 [.ref b, .int (jI p)] (mk t) (fun z t' => t = t' ∧ ((z = 0 ∧ ¬ (0 ≤ p ∧ p ≤ tI t b 2 - 1 ∧ ¬ tA t (b + 1) p.toNat = -1000000005)) ∨ (z = 1 ∧ (0 ≤ p ∧ p ≤ tI t b 2 - 1 ∧ ¬ tA t (b + 1) p.toNat = -1000000005)))) := by
  refine CI_ent (d := d + 1) (Bk := bX2_isNumber) (nL := 2) rfl rfl rfl (Nat.le_of_ble_eq_true rfl) ?_
  show Rn _ 1000000 0 [some (.ref b), some (.int (jI p))] [] _ _
  refine w_step rfl ?_
  refine w_iload rfl ?_
  refine w_push kc_0 ?_
  refine w_aload rfl ?_
  refine w_getI (gH_2 hb _) (feH_2 hb) ok (fun z1 hz1 hl1 hh1 => ?_)
  refine w_push kc_1 ?_
  refine w_sub ?_
  refine w_callS3I rfl (c_X8_within ok (by omega) (by omega) (by omega) (by omega) (by omega) (by omega)) ?_
  rintro z2 t2 ⟨rfl, hp2_0⟩
  rcases hp2_0 with ⟨rfl, hp2_0⟩ | ⟨rfl, hp2_0⟩
  · skip
    refine w_ieq (by omega) (fun _ => ?_) (fun h => absurd (by omega) h)
    refine w_step rfl ?_
    refine w_push kc_0 ?_
    refine w_goto ?_
    refine w_step rfl ?_
    refine w_retI rfl ?_
    exact ⟨rfl, (by omega)⟩
  refine w_ieq (by omega) (fun h => absurd h (by omega)) (fun _ => ?_)
  refine w_aload rfl ?_
  refine w_getR (gH_0 hb _) ?_
  refine w_iload rfl ?_
  refine w_iald (i := (p).toNat) (aiH_1 hb _) (by omega) (by omega) (aeH_1 hb _) ok (fun z3 hz3 hl3 hh3 => ?_)
  refine w_push kc_m1000000005 ?_
  refine w_ceq (by omega) (fun h4 => ?_) (fun h4 => ?_)
  · skip
    refine w_step rfl ?_
    refine w_push kc_0 ?_
    refine w_goto ?_
    refine w_step rfl ?_
    refine w_retI rfl ?_
    exact ⟨rfl, (by omega)⟩
  refine w_push kc_1 ?_
  refine w_goto ?_
  refine w_step rfl ?_
  refine w_retI rfl ?_
  exact ⟨rfl, (by omega)⟩
set_option maxRecDepth 100000 in
set_option maxHeartbeats 4000000 in
theorem c_X4_unlike {d : Nat} {t : TS} {b : Nat} {r : Int} {h : Nat}  (hb : isT b) (hh : isH h) (ok : OK t) (q0 : 0 ≤ r) (q1 : r ≤ 3) : CI (EX FU (d + 3)) 58 [.ref b, .int (jI r), .ref h] (mk t) (fun z t' => t = t' ∧ (-2147483648 ≤ z) ∧ (z ≤ 2147483647)) := by
  refine CI_ent (d := d + 2) (Bk := bX4_unlike) (nL := 5) rfl rfl rfl (Nat.le_of_ble_eq_true rfl) ?_
  show Rn _ 1000000 0 [some (.ref b), some (.int (jI r)), some (.ref h), none, none] [] _ _
  refine w_step rfl ?_
  refine w_push kc_0 ?_
  refine w_istore (lv' := [some (.ref b), some (.int (jI r)), some (.ref h), some (.int (jI 0)), none]) rfl ?_
  refine w_push kc_0 ?_
  refine w_istore (lv' := [some (.ref b), some (.int (jI r)), some (.ref h), some (.int (jI 0)), some (.int (jI 0))]) rfl ?_
  refine w_goto ?_
  have key1 : ∀ (n1 M1 : Nat) (acc : Int) (i : Int), (0 ≤ i) → (i ≤ 6) → (-2147483648 ≤ acc) → (acc ≤ 2147483647) → 6 - i < (n1 : Int) → 60 * n1 + (1000) ≤ M1 → Rn (bX4_unlike (EX FU (d + 2))) M1 1 [some (.ref b), some (.int (jI r)), some (.ref h), some (.int (jI acc)), some (.int (jI i))] [] (mk t) (PI (fun z t' => t = t' ∧ (-2147483648 ≤ z) ∧ (z ≤ 2147483647))) := by
    intro n1
    induction n1 with
    | zero => intro M1 acc i i1_0 i1_1 i1_2 i1_3 v1 f1; exfalso; omega
    | succ n1 ih1 =>
      intro M1 acc i i1_0 i1_1 i1_2 i1_3 v1 f1
      obtain ⟨M1, rfl⟩ : ∃ m, M1 = m + 60 := ⟨M1 - 60, by omega⟩
      refine w_step rfl ?_
      refine w_iload rfl ?_
      refine w_push kc_6 ?_
      refine w_cge (by omega) (fun h1 => ?_) (fun h1 => ?_)
      · skip
        refine w_step rfl ?_
        refine w_iload rfl ?_
        refine w_retI rfl ?_
        exact ⟨rfl, (by omega), (by omega)⟩
      refine w_aload rfl ?_
      refine w_iload rfl ?_
      refine w_callV1I (ojH hh _).choose_spec rfl (c_X2_isNumber hh ok (by omega) (by omega)) ?_
      rintro z2 t2 ⟨rfl, hp2_0⟩
      rcases hp2_0 with ⟨rfl, hp2_0⟩ | ⟨rfl, hp2_0⟩
      · skip
        refine w_ieq (by omega) (fun _ => ?_) (fun h => absurd (by omega) h)
        refine w_step rfl ?_
        refine w_iinc (lv' := [some (.ref b), some (.int (jI r)), some (.ref h), some (.int (jI acc)), some (.int (jI (i + 1)))]) kc_1 rfl rfl ?_
        refine w_goto ?_
        exact ih1 _ acc (i + 1)  (by omega) (by omega) (by omega) (by omega) (by omega) (by omega)
      refine w_ieq (by omega) (fun h => absurd h (by omega)) (fun _ => ?_)
      refine w_iload rfl ?_
      refine w_aload rfl ?_
      refine w_iload rfl ?_
      refine w_push kc_6 ?_
      refine w_mul ?_
      refine w_iload rfl ?_
      refine w_add ?_
      refine w_callV1I (ojT hb _).choose_spec rfl (c_X4_darkOfCell hb ok (by omega) (by omega)) ?_
      rintro z3 t3 ⟨rfl, hp3_0, hp3_1⟩
      refine w_aload rfl ?_
      refine w_getR (gH_0 hh _) ?_
      refine w_iload rfl ?_
      refine w_iald (i := (i).toNat) (aiH_1 hh _) (by omega) (by omega) (aeH_1 hh _) ok (fun z4 hz4 hl4 hh4 => ?_)
      refine w_subW (fun z5 hz5 hl5 hh5 => ?_)
      refine w_absW rfl (fun z6 hz6 hl6 hh6 => ?_)
      refine w_addW (fun z7 hz7 hl7 hh7 => ?_)
      refine w_istore (lv' := [some (.ref b), some (.int (jI r)), some (.ref h), some (.int (jI z7)), some (.int (jI i))]) rfl ?_
      refine w_goto ?_
      refine w_step rfl ?_
      refine w_iinc (lv' := [some (.ref b), some (.int (jI r)), some (.ref h), some (.int (jI z7)), some (.int (jI (i + 1)))]) kc_1 rfl rfl ?_
      refine w_goto ?_
      exact ih1 _ z7 (i + 1)  (by omega) (by omega) (by omega) (by omega) (by omega) (by omega)
  exact key1 7 _ 0 0  (by omega) (by omega) (by omega) (by omega) (by omega) (by omega)
