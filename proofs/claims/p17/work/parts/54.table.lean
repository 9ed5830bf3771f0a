set_option maxRecDepth 100000 in
set_option maxHeartbeats 4000000 in
theorem c_X4_draw {d : Nat} {t : TS} {b : Nat}  (hb : isT b) (ok : OK t) : CI (EX FU (d + 1)) 33 [.ref b] (mk t) (fun z t' => OK t' ∧ Fr [(b, 14)] t t' ∧ (tI t' b 14 = znF (tI t b 14)) ∧ (z = drF (znF (tI t b 14))) ∧ (0 ≤ z) ∧ (z < 16777216)) := by
  refine CI_ent (d := d + 0) (Bk := bX4_draw) (nL := 1) rfl rfl rfl (Nat.le_of_ble_eq_true rfl) ?_
  show Rn _ 1000000 0 [some (.ref b)] [] _ _
  have fr : Fr [(b, 14)] t t := Fr.rf _ _
  refine w_step rfl ?_
  refine w_aload rfl ?_
  refine w_aload rfl ?_
  refine w_getI (gT_14 hb _) (feT_14 hb) ok (fun z1 hz1 hl1 hh1 => ?_)
  refine w_push kc_1103515245 ?_
  refine w_mulW (fun z2 hz2 hl2 hh2 => ?_)
  refine w_push kc_12345 ?_
  refine w_addW (fun z3 hz3 hl3 hh3 => ?_)
  refine w_putI (pT_14 hb _) (feT_14 hb) ok (by omega) (fun t4 ht4 ok4 => ?_)
  have fr4 := fr.uI ht4 (by simp)
  refine w_aload rfl ?_
  refine w_getI (gT_14 hb _) (feT_14 hb) ok4 (fun z5 hz5 hl5 hh5 => ?_)
  refine w_push kc_8 ?_
  refine w_bin (fun z6 hz6 hl6 hh6 => ?_)
  have hu6 := ah_ushr8 hz6
  refine w_retI rfl ?_
  exact ⟨ok4, fr4, (by subst_vars; simp [tI_uI, znF]), (by subst_vars; simp [tI_uI, znF, drF]), (by omega), (by omega)⟩
set_option maxRecDepth 100000 in
set_option maxHeartbeats 4000000 in
theorem c_X4_darkAt {d : Nat} {t : TS} {s r u : Int}  (ok : OK t) (q0 : 0 ≤ s) (q1 : s ≤ 11) (q2 : 0 ≤ r) (q3 : r ≤ 3) (q4 : 0 ≤ u) (q5 : u ≤ 1) : CI (EX FU (d + 1)) 39 [.int (jI s), .int (jI r), .int (jI u)] (mk t) (fun z t' => t = t' ∧ (z = (s * 4 + r) * 2 + u)) := by
  refine CI_ent (d := d + 0) (Bk := bX4_darkAt) (nL := 3) rfl rfl rfl (Nat.le_of_ble_eq_true rfl) ?_
  show Rn _ 1000000 0 [some (.int (jI s)), some (.int (jI r)), some (.int (jI u))] [] _ _
  refine w_step rfl ?_
  refine w_iload rfl ?_
  refine w_push kc_4 ?_
  refine w_mul ?_
  refine w_iload rfl ?_
  refine w_add ?_
  refine w_push kc_2 ?_
  refine w_mul ?_
  refine w_iload rfl ?_
  refine w_add ?_
  refine w_retI rfl ?_
  exact ⟨rfl, (by omega)⟩
set_option maxRecDepth 100000 in
set_option maxHeartbeats 4000000 in
theorem c_X4_heavy {d : Nat} {t : TS} {b : Nat} {s : Int}  (hb : isT b) (ok : OK t) (q0 : 0 ≤ s) (q1 : s ≤ 11) : CI (EX FU (d + 2)) 40 [.ref b, .int (jI s)] (mk t) (fun z t' => t = t' ∧ (z = hvF (tA t (b + 1) s.toNat) (tA t (b + 2) s.toNat) (tA t (b + 3) s.toNat)) ∧ (0 ≤ z) ∧ (z ≤ 28)) := by
  refine CI_ent (d := d + 1) (Bk := bX4_heavy) (nL := 2) rfl rfl rfl (Nat.le_of_ble_eq_true rfl) ?_
  show Rn _ 1000000 0 [some (.ref b), some (.int (jI s))] [] _ _
  refine w_step rfl ?_
  refine w_aload rfl ?_
  refine w_getR (gT_0 hb _) ?_
  refine w_iload rfl ?_
  refine w_iald (i := (s).toNat) (aiT_1 hb _) (by omega) (by omega) (aeT_1 hb _) ok (fun z1 hz1 hl1 hh1 => ?_)
  refine w_aload rfl ?_
  refine w_getR (gT_1 hb _) ?_
  refine w_iload rfl ?_
  refine w_iald (i := (s).toNat) (aiT_2 hb _) (by omega) (by omega) (aeT_2 hb _) ok (fun z2 hz2 hl2 hh2 => ?_)
  refine w_aload rfl ?_
  refine w_getR (gT_2 hb _) ?_
  refine w_iload rfl ?_
  refine w_iald (i := (s).toNat) (aiT_3 hb _) (by omega) (by omega) (aeT_3 hb _) ok (fun z3 hz3 hl3 hh3 => ?_)
  refine w_callS3I rfl (c_X0_heavy ok (by omega) (by omega) (by omega) (by omega) (by omega) (by omega)) ?_
  rintro z4 t4 ⟨rfl, hp4_0, hp4_1, hp4_2⟩
  refine w_retI rfl ?_
  exact ⟨rfl, (by subst_vars; rfl), (by omega), (by omega)⟩
set_option maxRecDepth 100000 in
set_option maxHeartbeats 4000000 in
theorem c_X4_offAt {d : Nat} {t : TS} {b : Nat} {s p u : Int}  (hb : isT b) (ok : OK t) (q0 : 0 ≤ s) (q1 : s ≤ 11) (q2 : 0 ≤ p) (q3 : p ≤ 11) (q4 : 0 ≤ u) (q5 : u ≤ 1) : CI (EX FU (d + 2)) 42 [.ref b, .int (jI s), .int (jI p), .int (jI u)] (mk t) (fun z t' => t = t' ∧ (0 ≤ z) ∧ (z ≤ 198)) := by
  refine CI_ent (d := d + 1) (Bk := bX4_offAt) (nL := 7) rfl rfl rfl (Nat.le_of_ble_eq_true rfl) ?_
  show Rn _ 1000000 0 [some (.ref b), some (.int (jI s)), some (.int (jI p)), some (.int (jI u)), none, none, none] [] _ _
  refine w_step rfl ?_
  refine w_iload rfl ?_
  refine w_push kc_3 ?_
  refine w_div (by omega) ?_
  refine w_istore (lv' := [some (.ref b), some (.int (jI s)), some (.int (jI p)), some (.int (jI u)), some (.int (jI (p / 3))), none, none]) rfl ?_
  refine w_aload rfl ?_
  refine w_getR (gT_7 hb _) ?_
  refine w_iload rfl ?_
  refine w_iload rfl ?_
  refine w_iload rfl ?_
  refine w_callS3I rfl (c_X4_darkAt ok (by omega) (by omega) (by omega) (by omega) (by omega) (by omega)) ?_
  rintro z1 t1 ⟨rfl, hp1_0⟩
  refine w_iald (i := (z1).toNat) (aiT_8 hb _) (by omega) (by omega) (aeT_8 hb _) ok (fun z2 hz2 hl2 hh2 => ?_)
  refine w_aload rfl ?_
  refine w_getR (gT_6 hb _) ?_
  refine w_push kc_2 ?_
  refine w_iload rfl ?_
  refine w_mul ?_
  refine w_iald (i := ((2 * p)).toNat) (aiT_7 hb _) (by omega) (by omega) (aeT_7 hb _) ok (fun z3 hz3 hl3 hh3 => ?_)
  refine w_sub ?_
  refine w_istore (lv' := [some (.ref b), some (.int (jI s)), some (.int (jI p)), some (.int (jI u)), some (.int (jI (p / 3))), some (.int (jI (z2 - z3))), none]) rfl ?_
  refine w_aload rfl ?_
  refine w_getR (gT_7 hb _) ?_
  refine w_iload rfl ?_
  refine w_iload rfl ?_
  refine w_push kc_1 ?_
  refine w_iload rfl ?_
  refine w_sub ?_
  refine w_callS3I rfl (c_X4_darkAt ok (by omega) (by omega) (by omega) (by omega) (by omega) (by omega)) ?_
  rintro z4 t4 ⟨rfl, hp4_0⟩
  refine w_iald (i := (z4).toNat) (aiT_8 hb _) (by omega) (by omega) (aeT_8 hb _) ok (fun z5 hz5 hl5 hh5 => ?_)
  refine w_aload rfl ?_
  refine w_getR (gT_6 hb _) ?_
  refine w_push kc_2 ?_
  refine w_iload rfl ?_
  refine w_mul ?_
  refine w_push kc_1 ?_
  refine w_add ?_
  refine w_iald (i := (((2 * p) + 1)).toNat) (aiT_7 hb _) (by omega) (by omega) (aeT_7 hb _) ok (fun z6 hz6 hl6 hh6 => ?_)
  refine w_sub ?_
  refine w_istore (lv' := [some (.ref b), some (.int (jI s)), some (.int (jI p)), some (.int (jI u)), some (.int (jI (p / 3))), some (.int (jI (z2 - z3))), some (.int (jI (z5 - z6)))]) rfl ?_
  refine w_iload rfl ?_
  refine w_abs rfl (by omega) (fun z7 hz7 => ?_)
  refine w_iload rfl ?_
  refine w_abs rfl (by omega) (fun z8 hz8 => ?_)
  refine w_add ?_
  refine w_retI rfl ?_
  exact ⟨rfl, (by omega), (by omega)⟩
set_option maxRecDepth 100000 in
set_option maxHeartbeats 4000000 in
theorem c_X4_leastOff {d : Nat} {t : TS} {b : Nat} {s p : Int}  (hb : isT b) (ok : OK t) (q0 : 0 ≤ s) (q1 : s ≤ 11) (q2 : 0 ≤ p) (q3 : p ≤ 11) : CI (EX FU (d + 3)) 43 [.ref b, .int (jI s), .int (jI p)] (mk t) (fun z t' => t = t' ∧ (0 ≤ z) ∧ (z ≤ 198)) := by
  refine CI_ent (d := d + 2) (Bk := bX4_leastOff) (nL := 3) rfl rfl rfl (Nat.le_of_ble_eq_true rfl) ?_
  show Rn _ 1000000 0 [some (.ref b), some (.int (jI s)), some (.int (jI p))] [] _ _
  refine w_step rfl ?_
  refine w_aload rfl ?_
  refine w_iload rfl ?_
  refine w_iload rfl ?_
  refine w_push kc_0 ?_
  refine w_callV3I (ojT hb _).choose_spec rfl (c_X4_offAt hb ok (by omega) (by omega) (by omega) (by omega) (by omega) (by omega)) ?_
  rintro z1 t1 ⟨rfl, hp1_0, hp1_1⟩
  refine w_aload rfl ?_
  refine w_iload rfl ?_
  refine w_iload rfl ?_
  refine w_push kc_1 ?_
  refine w_callV3I (ojT hb _).choose_spec rfl (c_X4_offAt hb ok (by omega) (by omega) (by omega) (by omega) (by omega) (by omega)) ?_
  rintro z2 t2 ⟨rfl, hp2_0, hp2_1⟩
  refine w_min rfl (by omega) ?_
  refine w_retI rfl ?_
  exact ⟨rfl, (by omega), (by omega)⟩
set_option maxRecDepth 100000 in
set_option maxHeartbeats 4000000 in
theorem c_X4_isLaid {d : Nat} {t : TS} {b : Nat} {s : Int}  (hb : isT b) (ok : OK t) (q0 : 0 ≤ s) (q1 : s ≤ 11) : CI (EX FU (d + 1)) 44 [.ref b, .int (jI s)] (mk t) (fun z t' => t = t' ∧ ((z = 0 ∧ ¬ (tA t (b + 4) s.toNat < 12)) ∨ (z = 1 ∧ (tA t (b + 4) s.toNat < 12)))) := by
  refine CI_ent (d := d + 0) (Bk := bX4_isLaid) (nL := 2) rfl rfl rfl (Nat.le_of_ble_eq_true rfl) ?_
  show Rn _ 1000000 0 [some (.ref b), some (.int (jI s))] [] _ _
  refine w_step rfl ?_
  refine w_aload rfl ?_
  refine w_getR (gT_3 hb _) ?_
  refine w_iload rfl ?_
  refine w_iald (i := (s).toNat) (aiT_4 hb _) (by omega) (by omega) (aeT_4 hb _) ok (fun z1 hz1 hl1 hh1 => ?_)
  refine w_push kc_12 ?_
  refine w_cge (by omega) (fun h2 => ?_) (fun h2 => ?_)
  · skip
    refine w_step rfl ?_
    refine w_push kc_0 ?_
    refine w_goto ?_
    refine w_step rfl ?_
    refine w_retI rfl ?_
    exact ⟨rfl, (by omega)⟩
  refine w_push kc_1 ?_
  refine w_goto ?_
  refine w_step rfl ?_
  refine w_retI rfl ?_
  exact ⟨rfl, (by omega)⟩
set_option maxRecDepth 100000 in
set_option maxHeartbeats 4000000 in
theorem c_X4_darkOfCell {d : Nat} {t : TS} {b : Nat} {c : Int}  (hb : isT b) (ok : OK t) (q0 : 0 ≤ c) (q1 : c ≤ 23) : CI (EX FU (d + 2)) 59 [.ref b, .int (jI c)] (mk t) (fun z t' => t = t' ∧ (0 ≤ z) ∧ (z ≤ 99)) := by
  refine CI_ent (d := d + 1) (Bk := bX4_darkOfCell) (nL := 5) rfl rfl rfl (Nat.le_of_ble_eq_true rfl) ?_
  show Rn _ 1000000 0 [some (.ref b), some (.int (jI c)), none, none, none] [] _ _
  refine w_step rfl ?_
  refine w_iload rfl ?_
  refine w_push kc_2 ?_
  refine w_div (by omega) ?_
  refine w_istore (lv' := [some (.ref b), some (.int (jI c)), some (.int (jI (c / 2))), none, none]) rfl ?_
  refine w_aload rfl ?_
  refine w_getR (gT_5 hb _) ?_
  refine w_iload rfl ?_
  refine w_iald (i := ((c / 2)).toNat) (aiT_6 hb _) (by omega) (by omega) (aeT_6 hb _) ok (fun z1 hz1 hl1 hh1 => ?_)
  refine w_istore (lv' := [some (.ref b), some (.int (jI c)), some (.int (jI (c / 2))), some (.int (jI z1)), none]) rfl ?_
  refine w_iload rfl ?_
  refine w_push kc_m1 ?_
  refine w_cne (by omega) (fun h2 => ?_) (fun h2 => ?_)
  · skip
    refine w_step rfl ?_
    refine w_iload rfl ?_
    refine w_push kc_2 ?_
    refine w_rem (by omega) ?_
    refine w_aload rfl ?_
    refine w_getR (gT_4 hb _) ?_
    refine w_iload rfl ?_
    refine w_iald (i := (z1).toNat) (aiT_5 hb _) (by omega) (by omega) (aeT_5 hb _) ok (fun z3 hz3 hl3 hh3 => ?_)
    refine w_cne (by omega) (fun h4 => ?_) (fun h4 => ?_)
    · skip
      refine w_step rfl ?_
      refine w_push kc_1 ?_
      refine w_goto ?_
      refine w_step rfl ?_
      refine w_istore (lv' := [some (.ref b), some (.int (jI c)), some (.int (jI (c / 2))), some (.int (jI z1)), some (.int (jI 1))]) rfl ?_
      refine w_aload rfl ?_
      refine w_getR (gT_7 hb _) ?_
      refine w_iload rfl ?_
      refine w_iload rfl ?_
      refine w_push kc_3 ?_
      refine w_div (by omega) ?_
      refine w_iload rfl ?_
      refine w_callS3I rfl (c_X4_darkAt ok (by omega) (by omega) (by omega) (by omega) (by omega) (by omega)) ?_
      rintro z5 t5 ⟨rfl, hp5_0⟩
      refine w_iald (i := (z5).toNat) (aiT_8 hb _) (by omega) (by omega) (aeT_8 hb _) ok (fun z6 hz6 hl6 hh6 => ?_)
      refine w_retI rfl ?_
      exact ⟨rfl, (by omega), (by omega)⟩
    refine w_push kc_0 ?_
    refine w_goto ?_
    refine w_step rfl ?_
    refine w_istore (lv' := [some (.ref b), some (.int (jI c)), some (.int (jI (c / 2))), some (.int (jI z1)), some (.int (jI 0))]) rfl ?_
    refine w_aload rfl ?_
    refine w_getR (gT_7 hb _) ?_
    refine w_iload rfl ?_
    refine w_iload rfl ?_
    refine w_push kc_3 ?_
    refine w_div (by omega) ?_
    refine w_iload rfl ?_
    refine w_callS3I rfl (c_X4_darkAt ok (by omega) (by omega) (by omega) (by omega) (by omega) (by omega)) ?_
    rintro z7 t7 ⟨rfl, hp7_0⟩
    refine w_iald (i := (z7).toNat) (aiT_8 hb _) (by omega) (by omega) (aeT_8 hb _) ok (fun z8 hz8 hl8 hh8 => ?_)
    refine w_retI rfl ?_
    exact ⟨rfl, (by omega), (by omega)⟩
  refine w_push kc_0 ?_
  refine w_retI rfl ?_
  exact ⟨rfl, (by omega), (by omega)⟩
set_option maxRecDepth 100000 in
set_option maxHeartbeats 4000000 in
theorem c_X2_isNumber {d : Nat} {t : TS} {b : Nat} {p : Int}  (hb : isH b) (ok : OK t) (q0 : -2147483648 ≤ p) (q1 : p ≤ 2147483647) : CI (EX FU (d + 2)) 25 [.ref b, .int (jI p)] (mk t) (fun z t' => t = t' ∧ ((z = 0 ∧ ¬ (0 ≤ p ∧ p ≤ tI t b 2 - 1 ∧ ¬ tA t (b + 1) p.toNat = -1000000005)) ∨ (z = 1 ∧ (0 ≤ p ∧ p ≤ tI t b 2 - 1 ∧ ¬ tA t (b + 1) p.toNat = -1000000005)))) := by
  refine CI_ent (d := d + 1) (Bk := bX2_isNumber) (nL := 2) rfl rfl rfl (Nat.le_of_ble_eq_true rfl) ?_
  show Rn _ 1000000 0 [some (.ref b), some (.int (jI p))] [] _ _
  refine w_step rfl ?_
  refine w_iload rfl ?_
  refine w_push kc_0 ?_
  refine w_aload rfl ?_
  refine w_getI (gH_2 hb _) (feH_2 hb) ok (fun z1 hz1 hl1 hh1 => ?_)
  refine w_push kc_1 ?_
  refine w_sub ?_
  refine w_callS3I rfl (c_X8_within ok (by omega) (by omega) (by omega) (by omega) (by omega) (by omega)) ?_
  rintro z2 t2 ⟨rfl, hp2_0⟩
  rcases hp2_0 with ⟨rfl, hp2_0⟩ | ⟨rfl, hp2_0⟩
  · skip
    refine w_ieq (by omega) (fun _ => ?_) (fun h => absurd (by omega) h)
    refine w_step rfl ?_
    refine w_push kc_0 ?_
    refine w_goto ?_
    refine w_step rfl ?_
    refine w_retI rfl ?_
    exact ⟨rfl, (by omega)⟩
  refine w_ieq (by omega) (fun h => absurd h (by omega)) (fun _ => ?_)
  refine w_aload rfl ?_
  refine w_getR (gH_0 hb _) ?_
  refine w_iload rfl ?_
  refine w_iald (i := (p).toNat) (aiH_1 hb _) (by omega) (by omega) (aeH_1 hb _) ok (fun z3 hz3 hl3 hh3 => ?_)
  refine w_push kc_m1000000005 ?_
  refine w_ceq (by omega) (fun h4 => ?_) (fun h4 => ?_)
  · skip
    refine w_step rfl ?_
    refine w_push kc_0 ?_
    refine w_goto ?_
    refine w_step rfl ?_
    refine w_retI rfl ?_
    exact ⟨rfl, (by omega)⟩
  refine w_push kc_1 ?_
  refine w_goto ?_
  refine w_step rfl ?_
  refine w_retI rfl ?_
  exact ⟨rfl, (by omega)⟩
set_option maxRecDepth 100000 in
set_option maxHeartbeats 4000000 in
theorem c_X4_unlike {d : Nat} {t : TS} {b : Nat} {r : Int} {h : Nat}  (hb : isT b) (hh : isH h) (ok : OK t) (q0 : 0 ≤ r) (q1 : r ≤ 3) : CI (EX FU (d + 3)) 58 [.ref b, .int (jI r), .ref h] (mk t) (fun z t' => t = t' ∧ (-2147483648 ≤ z) ∧ (z ≤ 2147483647)) := by
  refine CI_ent (d := d + 2) (Bk := bX4_unlike) (nL := 5) rfl rfl rfl (Nat.le_of_ble_eq_true rfl) ?_
  show Rn _ 1000000 0 [some (.ref b), some (.int (jI r)), some (.ref h), none, none] [] _ _
  refine w_step rfl ?_
  refine w_push kc_0 ?_
  refine w_istore (lv' := [some (.ref b), some (.int (jI r)), some (.ref h), some (.int (jI 0)), none]) rfl ?_
  refine w_push kc_0 ?_
  refine w_istore (lv' := [some (.ref b), some (.int (jI r)), some (.ref h), some (.int (jI 0)), some (.int (jI 0))]) rfl ?_
  refine w_goto ?_
  have key1 : ∀ (n1 M1 : Nat) (acc : Int) (i : Int), (0 ≤ i) → (i ≤ 6) → (-2147483648 ≤ acc) → (acc ≤ 2147483647) → 6 - i < (n1 : Int) → 60 * n1 + (1000) ≤ M1 → Rn (bX4_unlike (EX FU (d + 2))) M1 1 [some (.ref b), some (.int (jI r)), some (.ref h), some (.int (jI acc)), some (.int (jI i))] [] (mk t) (PI (fun z t' => t = t' ∧ (-2147483648 ≤ z) ∧ (z ≤ 2147483647))) := by
    intro n1
    induction n1 with
    | zero => intro M1 acc i i1_0 i1_1 i1_2 i1_3 v1 f1; exfalso; omega
    | succ n1 ih1 =>
      intro M1 acc i i1_0 i1_1 i1_2 i1_3 v1 f1
      obtain ⟨M1, rfl⟩ : ∃ m, M1 = m + 60 := ⟨M1 - 60, by omega⟩
      refine w_step rfl ?_
      refine w_iload rfl ?_
      refine w_push kc_6 ?_
      refine w_cge (by omega) (fun h1 => ?_) (fun h1 => ?_)
      · skip
        refine w_step rfl ?_
        refine w_iload rfl ?_
        refine w_retI rfl ?_
        exact ⟨rfl, (by omega), (by omega)⟩
      refine w_aload rfl ?_
      refine w_iload rfl ?_
      refine w_callV1I (ojH hh _).choose_spec rfl (c_X2_isNumber hh ok (by omega) (by omega)) ?_
      rintro z2 t2 ⟨rfl, hp2_0⟩
      rcases hp2_0 with ⟨rfl, hp2_0⟩ | ⟨rfl, hp2_0⟩
      · skip
        refine w_ieq (by omega) (fun _ => ?_) (fun h => absurd (by omega) h)
        refine w_step rfl ?_
        refine w_iinc (lv' := [some (.ref b), some (.int (jI r)), some (.ref h), some (.int (jI acc)), some (.int (jI (i + 1)))]) kc_1 rfl rfl ?_
        refine w_goto ?_
        exact ih1 _ acc (i + 1)  (by omega) (by omega) (by omega) (by omega) (by omega) (by omega)
      refine w_ieq (by omega) (fun h => absurd h (by omega)) (fun _ => ?_)
      refine w_iload rfl ?_
      refine w_aload rfl ?_
      refine w_iload rfl ?_
      refine w_push kc_6 ?_
      refine w_mul ?_
      refine w_iload rfl ?_
      refine w_add ?_
      refine w_callV1I (ojT hb _).choose_spec rfl (c_X4_darkOfCell hb ok (by omega) (by omega)) ?_
      rintro z3 t3 ⟨rfl, hp3_0, hp3_1⟩
      refine w_aload rfl ?_
      refine w_getR (gH_0 hh _) ?_
      refine w_iload rfl ?_
      refine w_iald (i := (i).toNat) (aiH_1 hh _) (by omega) (by omega) (aeH_1 hh _) ok (fun z4 hz4 hl4 hh4 => ?_)
      refine w_subW (fun z5 hz5 hl5 hh5 => ?_)
      refine w_absW rfl (fun z6 hz6 hl6 hh6 => ?_)
      refine w_addW (fun z7 hz7 hl7 hh7 => ?_)
      refine w_istore (lv' := [some (.ref b), some (.int (jI r)), some (.ref h), some (.int (jI z7)), some (.int (jI i))]) rfl ?_
      refine w_goto ?_
      refine w_step rfl ?_
      refine w_iinc (lv' := [some (.ref b), some (.int (jI r)), some (.ref h), some (.int (jI z7)), some (.int (jI (i + 1)))]) kc_1 rfl rfl ?_
      refine w_goto ?_
      exact ih1 _ z7 (i + 1)  (by omega) (by omega) (by omega) (by omega) (by omega) (by omega)
  exact key1 7 _ 0 0  (by omega) (by omega) (by omega) (by omega) (by omega) (by omega)
