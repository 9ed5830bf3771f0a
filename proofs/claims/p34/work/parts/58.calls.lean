set_option maxRecDepth 100000 in
set_option maxHeartbeats 4000000 in
theorem c_X8_stone {d : Nat} {t : TS} {k l r : Int}  (ok : OK t) (q0 : -2147483648 ≤ k) (q1 : k ≤ 2147483647) (q2 : -2147483648 ≤ l) (q3 : l ≤ 2147483647) (q4 : -2147483648 ≤ r) (q5 : r ≤ 2147483647) : CI (EX FU (d + 7)) 75 [.ref 0, .int (jI k), .int (jI l), .int (jI r)] (mk t) (fun z t' => OK t' ∧ Fr [(1, 10), (2, 100), (3, 100), (4, 100), (5, 100), (6, 100), (9, 100)] t t' ∧ (((¬ (0 ≤ k ∧ k ≤ 5 ∧ 0 ≤ l ∧ l ≤ 6 ∧ 0 ≤ r ∧ r ≤ 6)) ∧ z = (-1000000001) ∧ t' = t) ∨ ((0 ≤ k ∧ k ≤ 5 ∧ 0 ≤ l ∧ l ≤ 6 ∧ 0 ≤ r ∧ r ≤ 6) ∧ (tI t 1 10 = 12) ∧ z = (-1000000003) ∧ t' = t) ∨ ((0 ≤ k ∧ k ≤ 5 ∧ 0 ≤ l ∧ l ≤ 6 ∧ 0 ≤ r ∧ r ≤ 6) ∧ (tI t 1 10 < 12) ∧ z = tI t 1 10 ∧ (tI t' 1 10 = tI t 1 10 + 1) ∧ (∀ i, tA t' 2 i = if i = (tI t 1 10).toNat then k else tA t 2 i) ∧ (∀ i, tA t' 3 i = if i = (tI t 1 10).toNat then l else tA t 3 i) ∧ (∀ i, tA t' 4 i = if i = (tI t 1 10).toNat then r else tA t 4 i)))) := by
  refine CI_ent (d := d + 6) (Bk := bX8_stone) (nL := 4) rfl rfl rfl (Nat.le_of_ble_eq_true rfl) ?_
  show Rn _ 1000000 0 [some (.ref 0), some (.int (jI k)), some (.int (jI l)), some (.int (jI r))] [] _ _
  have fr : Fr [(1, 10), (2, 100), (3, 100), (4, 100), (5, 100), (6, 100), (9, 100)] t t := Fr.rf _ _
  have hn0 := (ok.f fe_1_10).1
  have hn1 := (ok.f fe_1_10).2
  refine w_step rfl ?_
  refine w_iload rfl ?_
  refine w_push kc_0 ?_
  refine w_push kc_5 ?_
  refine w_callS3I rfl (c_X8_within ok (by omega) (by omega) (by omega) (by omega) (by omega) (by omega)) ?_
  rintro z1 t1 ⟨rfl, hp1_0⟩
  rcases hp1_0 with ⟨rfl, hp1_0⟩ | ⟨rfl, hp1_0⟩
  · skip
    refine w_ieq (by omega) (fun _ => ?_) (fun h => absurd (by omega) h)
    refine w_step rfl ?_
    refine w_push kc_m1000000001 ?_
    refine w_retI rfl ?_
    exact ⟨ok, fr, (by first | (exact Or.inl ⟨by omega, by first | omega | (subst_vars; rfl), rfl⟩) | (exact Or.inr (Or.inl ⟨by omega, by omega, by first | omega | (subst_vars; rfl), rfl⟩)) | (exact Or.inr (Or.inr (⟨by omega, by omega, by first | omega | (subst_vars; rfl), e1, e2, e3, e4⟩))))⟩
  refine w_ieq (by omega) (fun h => absurd h (by omega)) (fun _ => ?_)
  refine w_iload rfl ?_
  refine w_push kc_0 ?_
  refine w_push kc_6 ?_
  refine w_callS3I rfl (c_X8_within ok (by omega) (by omega) (by omega) (by omega) (by omega) (by omega)) ?_
  rintro z2 t2 ⟨rfl, hp2_0⟩
  rcases hp2_0 with ⟨rfl, hp2_0⟩ | ⟨rfl, hp2_0⟩
  · skip
    refine w_ieq (by omega) (fun _ => ?_) (fun h => absurd (by omega) h)
    refine w_step rfl ?_
    refine w_push kc_m1000000001 ?_
    refine w_retI rfl ?_
    exact ⟨ok, fr, (by first | (exact Or.inl ⟨by omega, by first | omega | (subst_vars; rfl), rfl⟩) | (exact Or.inr (Or.inl ⟨by omega, by omega, by first | omega | (subst_vars; rfl), rfl⟩)) | (exact Or.inr (Or.inr (⟨by omega, by omega, by first | omega | (subst_vars; rfl), e1, e2, e3, e4⟩))))⟩
  refine w_ieq (by omega) (fun h => absurd h (by omega)) (fun _ => ?_)
  refine w_iload rfl ?_
  refine w_push kc_0 ?_
  refine w_push kc_6 ?_
  refine w_callS3I rfl (c_X8_within ok (by omega) (by omega) (by omega) (by omega) (by omega) (by omega)) ?_
  rintro z3 t3 ⟨rfl, hp3_0⟩
  rcases hp3_0 with ⟨rfl, hp3_0⟩ | ⟨rfl, hp3_0⟩
  · skip
    refine w_ine (by omega) (fun h => absurd h (by omega)) (fun _ => ?_)
    refine w_goto ?_
    refine w_step rfl ?_
    refine w_push kc_m1000000001 ?_
    refine w_retI rfl ?_
    exact ⟨ok, fr, (by first | (exact Or.inl ⟨by omega, by first | omega | (subst_vars; rfl), rfl⟩) | (exact Or.inr (Or.inl ⟨by omega, by omega, by first | omega | (subst_vars; rfl), rfl⟩)) | (exact Or.inr (Or.inr (⟨by omega, by omega, by first | omega | (subst_vars; rfl), e1, e2, e3, e4⟩))))⟩
  refine w_ine (by omega) (fun _ => ?_) (fun h => absurd (by omega) h)
  refine w_step rfl ?_
  refine w_aload rfl ?_
  refine w_getR (g_0_0 _) ?_
  refine w_getI (g_1_10 _) fe_1_10 ok (fun z4 hz4 hl4 hh4 => ?_)
  refine w_push kc_12 ?_
  refine w_clt (by omega) (fun h5 => ?_) (fun h5 => ?_)
  · skip
    refine w_step rfl ?_
    refine w_aload rfl ?_
    refine w_getR (g_0_0 _) ?_
    refine w_iload rfl ?_
    refine w_iload rfl ?_
    refine w_iload rfl ?_
    refine w_callV3I (oj_1 _).choose_spec rfl (c_X4_addStone isT1 ok (by omega) (by omega) (by omega) (by omega) (by omega) (by omega) (by omega)) ?_
    rintro z6 t6 ⟨ok6, fq6, hp6_0, hp6_1, hp6_2, hp6_3, hp6_4⟩
    have fr6 := fr.then fq6 (by simp)
    have e1 := hp6_1
    have e2 := hp6_2
    have e3 := hp6_3
    have e4 := hp6_4
    refine w_retI rfl ?_
    exact ⟨ok6, fr6, (by first | (exact Or.inl ⟨by omega, by first | omega | (subst_vars; rfl), rfl⟩) | (exact Or.inr (Or.inl ⟨by omega, by omega, by first | omega | (subst_vars; rfl), rfl⟩)) | (exact Or.inr (Or.inr (⟨by omega, by omega, by first | omega | (subst_vars; rfl), e1, e2, e3, e4⟩))))⟩
  refine w_push kc_m1000000003 ?_
  refine w_retI rfl ?_
  exact ⟨ok, fr, (by first | (exact Or.inl ⟨by omega, by first | omega | (subst_vars; rfl), rfl⟩) | (exact Or.inr (Or.inl ⟨by omega, by omega, by first | omega | (subst_vars; rfl), rfl⟩)) | (exact Or.inr (Or.inr (⟨by omega, by omega, by first | omega | (subst_vars; rfl), e1, e2, e3, e4⟩))))⟩
set_option maxRecDepth 100000 in
set_option maxHeartbeats 4000000 in
theorem c_X8_told {d : Nat} {t : TS} {s w : Int}  (ok : OK t) (q0 : -2147483648 ≤ s) (q1 : s ≤ 2147483647) (q2 : -2147483648 ≤ w) (q3 : w ≤ 2147483647) : CI (EX FU (d + 3)) 76 [.ref 0, .int (jI s), .int (jI w)] (mk t) (fun z t' => t = t' ∧ (-2147483648 ≤ z) ∧ (z ≤ 2147483647)) := by
  refine CI_ent (d := d + 2) (Bk := bX8_told) (nL := 3) rfl rfl rfl (Nat.le_of_ble_eq_true rfl) ?_
  show Rn _ 1000000 0 [some (.ref 0), some (.int (jI s)), some (.int (jI w))] [] _ _
  have hn0 := (ok.f fe_1_10).1
  have hn1 := (ok.f fe_1_10).2
  refine w_step rfl ?_
  refine w_aload rfl ?_
  refine w_iload rfl ?_
  refine w_callV1I (oj_0 _).choose_spec rfl (c_X8_isStone ok (by omega) (by omega)) ?_
  rintro z1 t1 ⟨rfl, hp1_0⟩
  rcases hp1_0 with ⟨rfl, hp1_0⟩ | ⟨rfl, hp1_0⟩
  · skip
    refine w_ine (by omega) (fun h => absurd h (by omega)) (fun _ => ?_)
    refine w_push kc_m1000000001 ?_
    refine w_retI rfl ?_
    exact ⟨rfl, (by omega), (by omega)⟩
  refine w_ine (by omega) (fun _ => ?_) (fun h => absurd (by omega) h)
  refine w_step rfl ?_
  refine w_iload rfl ?_
  have hs2 : w = 0 ∨ w = 1 ∨ w = 2 ∨ w = 3 ∨ w = 4 ∨ w = 5 ∨ w = 6 ∨ (w < 0 ∨ 0 + 7 ≤ w) := (by omega)
  rcases hs2 with hs2 | hs2 | hs2 | hs2 | hs2 | hs2 | hs2 | hs2
  · refine w_sw (n := 2) (tsw_at hs2 (by decide)) ?_
    refine w_step rfl ?_
    refine w_aload rfl ?_
    refine w_getR (g_0_0 _) ?_
    refine w_getR (g_1_0 _) ?_
    refine w_iload rfl ?_
    refine w_iald (i := (s).toNat) (ai_2 _) (by omega) (by omega) (ae_2 _) ok (fun z3 hz3 hl3 hh3 => ?_)
    refine w_retI rfl ?_
    exact ⟨rfl, (by omega), (by omega)⟩
  · refine w_sw (n := 3) (tsw_at hs2 (by decide)) ?_
    refine w_step rfl ?_
    refine w_aload rfl ?_
    refine w_getR (g_0_0 _) ?_
    refine w_getR (g_1_1 _) ?_
    refine w_iload rfl ?_
    refine w_iald (i := (s).toNat) (ai_3 _) (by omega) (by omega) (ae_3 _) ok (fun z4 hz4 hl4 hh4 => ?_)
    refine w_retI rfl ?_
    exact ⟨rfl, (by omega), (by omega)⟩
  · refine w_sw (n := 4) (tsw_at hs2 (by decide)) ?_
    refine w_step rfl ?_
    refine w_aload rfl ?_
    refine w_getR (g_0_0 _) ?_
    refine w_getR (g_1_2 _) ?_
    refine w_iload rfl ?_
    refine w_iald (i := (s).toNat) (ai_4 _) (by omega) (by omega) (ae_4 _) ok (fun z5 hz5 hl5 hh5 => ?_)
    refine w_retI rfl ?_
    exact ⟨rfl, (by omega), (by omega)⟩
  · refine w_sw (n := 5) (tsw_at hs2 (by decide)) ?_
    refine w_step rfl ?_
    refine w_aload rfl ?_
    refine w_getR (g_0_0 _) ?_
    refine w_getR (g_1_3 _) ?_
    refine w_iload rfl ?_
    refine w_iald (i := (s).toNat) (ai_5 _) (by omega) (by omega) (ae_5 _) ok (fun z6 hz6 hl6 hh6 => ?_)
    refine w_retI rfl ?_
    exact ⟨rfl, (by omega), (by omega)⟩
  · refine w_sw (n := 6) (tsw_at hs2 (by decide)) ?_
    refine w_step rfl ?_
    refine w_aload rfl ?_
    refine w_getR (g_0_0 _) ?_
    refine w_getR (g_1_4 _) ?_
    refine w_iload rfl ?_
    refine w_iald (i := (s).toNat) (ai_6 _) (by omega) (by omega) (ae_6 _) ok (fun z7 hz7 hl7 hh7 => ?_)
    refine w_retI rfl ?_
    exact ⟨rfl, (by omega), (by omega)⟩
  · refine w_sw (n := 7) (tsw_at hs2 (by decide)) ?_
    refine w_step rfl ?_
    refine w_aload rfl ?_
    refine w_getR (g_0_0 _) ?_
    refine w_iload rfl ?_
    refine w_callV1I (oj_1 _).choose_spec rfl (c_X4_heavy isT1 ok (by omega) (by omega)) ?_
    rintro z8 t8 ⟨rfl, hp8_0, hp8_1, hp8_2⟩
    refine w_retI rfl ?_
    exact ⟨rfl, (by omega), (by omega)⟩
  · refine w_sw (n := 8) (tsw_at hs2 (by decide)) ?_
    refine w_step rfl ?_
    refine w_aload rfl ?_
    refine w_getR (g_0_0 _) ?_
    refine w_getR (g_1_0 _) ?_
    refine w_iload rfl ?_
    refine w_iald (i := (s).toNat) (ai_2 _) (by omega) (by omega) (ae_2 _) ok (fun z9 hz9 hl9 hh9 => ?_)
    refine w_aload rfl ?_
    refine w_getR (g_0_0 _) ?_
    refine w_getR (g_1_1 _) ?_
    refine w_iload rfl ?_
    refine w_iald (i := (s).toNat) (ai_3 _) (by omega) (by omega) (ae_3 _) ok (fun z10 hz10 hl10 hh10 => ?_)
    refine w_aload rfl ?_
    refine w_getR (g_0_0 _) ?_
    refine w_getR (g_1_2 _) ?_
    refine w_iload rfl ?_
    refine w_iald (i := (s).toNat) (ai_4 _) (by omega) (by omega) (ae_4 _) ok (fun z11 hz11 hl11 hh11 => ?_)
    refine w_callS3I rfl (c_X0_worth ok (by omega) (by omega) (by omega) (by omega) (by omega) (by omega)) ?_
    rintro z12 t12 ⟨rfl, hp12_0, hp12_1, hp12_2⟩
    refine w_retI rfl ?_
    exact ⟨rfl, (by omega), (by omega)⟩
  · refine w_sw (n := 9) (tsw_df (m := 7) rfl (by omega) (by omega)) ?_
    refine w_step rfl ?_
    refine w_push kc_m1000000001 ?_
    refine w_retI rfl ?_
    exact ⟨rfl, (by omega), (by omega)⟩
set_option maxRecDepth 100000 in
set_option maxHeartbeats 4000000 in
theorem c_X8_off {d : Nat} {t : TS} {s p u : Int}  (ok : OK t) (q0 : -2147483648 ≤ s) (q1 : s ≤ 2147483647) (q2 : -2147483648 ≤ p) (q3 : p ≤ 2147483647) (q4 : -2147483648 ≤ u) (q5 : u ≤ 2147483647) : CI (EX FU (d + 3)) 77 [.ref 0, .int (jI s), .int (jI p), .int (jI u)] (mk t) (fun z t' => t = t' ∧ (-2147483648 ≤ z) ∧ (z ≤ 2147483647)) := by
  refine CI_ent (d := d + 2) (Bk := bX8_off) (nL := 4) rfl rfl rfl (Nat.le_of_ble_eq_true rfl) ?_
  show Rn _ 1000000 0 [some (.ref 0), some (.int (jI s)), some (.int (jI p)), some (.int (jI u))] [] _ _
  have hn0 := (ok.f fe_1_10).1
  have hn1 := (ok.f fe_1_10).2
  refine w_step rfl ?_
  refine w_aload rfl ?_
  refine w_iload rfl ?_
  refine w_callV1I (oj_0 _).choose_spec rfl (c_X8_isStone ok (by omega) (by omega)) ?_
  rintro z1 t1 ⟨rfl, hp1_0⟩
  rcases hp1_0 with ⟨rfl, hp1_0⟩ | ⟨rfl, hp1_0⟩
  · skip
    refine w_ieq (by omega) (fun _ => ?_) (fun h => absurd (by omega) h)
    refine w_step rfl ?_
    refine w_push kc_m1000000001 ?_
    refine w_retI rfl ?_
    exact ⟨rfl, (by omega), (by omega)⟩
  refine w_ieq (by omega) (fun h => absurd h (by omega)) (fun _ => ?_)
  refine w_iload rfl ?_
  refine w_callS1I rfl (c_X8_isPlace ok (by omega) (by omega)) ?_
  rintro z2 t2 ⟨rfl, hp2_0⟩
  rcases hp2_0 with ⟨rfl, hp2_0⟩ | ⟨rfl, hp2_0⟩
  · skip
    refine w_ieq (by omega) (fun _ => ?_) (fun h => absurd (by omega) h)
    refine w_step rfl ?_
    refine w_push kc_m1000000001 ?_
    refine w_retI rfl ?_
    exact ⟨rfl, (by omega), (by omega)⟩
  refine w_ieq (by omega) (fun h => absurd h (by omega)) (fun _ => ?_)
  refine w_iload rfl ?_
  refine w_push kc_0 ?_
  refine w_push kc_1 ?_
  refine w_callS3I rfl (c_X8_within ok (by omega) (by omega) (by omega) (by omega) (by omega) (by omega)) ?_
  rintro z3 t3 ⟨rfl, hp3_0⟩
  rcases hp3_0 with ⟨rfl, hp3_0⟩ | ⟨rfl, hp3_0⟩
  · skip
    refine w_ine (by omega) (fun h => absurd h (by omega)) (fun _ => ?_)
    refine w_goto ?_
    refine w_step rfl ?_
    refine w_push kc_m1000000001 ?_
    refine w_retI rfl ?_
    exact ⟨rfl, (by omega), (by omega)⟩
  refine w_ine (by omega) (fun _ => ?_) (fun h => absurd (by omega) h)
  refine w_step rfl ?_
  refine w_aload rfl ?_
  refine w_getR (g_0_0 _) ?_
  refine w_iload rfl ?_
  refine w_iload rfl ?_
  refine w_iload rfl ?_
  refine w_callV3I (oj_1 _).choose_spec rfl (c_X4_offAt isT1 ok (by omega) (by omega) (by omega) (by omega) (by omega) (by omega)) ?_
  rintro z4 t4 ⟨rfl, hp4_0, hp4_1⟩
  refine w_retI rfl ?_
  exact ⟨rfl, (by omega), (by omega)⟩
set_option maxRecDepth 100000 in
set_option maxHeartbeats 4000000 in
theorem c_X8_as {d : Nat} {t : TS} {s k : Int}  (ok : OK t) (q0 : -2147483648 ≤ s) (q1 : s ≤ 2147483647) (q2 : -2147483648 ≤ k) (q3 : k ≤ 2147483647) : CI (EX FU (d + 3)) 78 [.ref 0, .int (jI s), .int (jI k)] (mk t) (fun z t' => t = t' ∧ (((¬ (0 ≤ s ∧ s ≤ tI t 1 10 - 1 ∧ 0 ≤ k ∧ k ≤ 5)) ∧ z = (-1000000001)) ∨ ((0 ≤ s ∧ s ≤ tI t 1 10 - 1 ∧ 0 ≤ k ∧ k ≤ 5) ∧ (tA t 2 s.toNat = k ∨ k = 0 ∨ (k = 1 ∧ tA t 2 s.toNat = 3) ∨ (k = 2 ∧ tA t 2 s.toNat = 4)) ∧ z = tA t 3 s.toNat) ∨ ((0 ≤ s ∧ s ≤ tI t 1 10 - 1 ∧ 0 ≤ k ∧ k ≤ 5) ∧ (¬ (tA t 2 s.toNat = k ∨ k = 0 ∨ (k = 1 ∧ tA t 2 s.toNat = 3) ∨ (k = 2 ∧ tA t 2 s.toNat = 4))) ∧ z = (-1000000012)))) := by
  refine CI_ent (d := d + 2) (Bk := bX8_as) (nL := 3) rfl rfl rfl (Nat.le_of_ble_eq_true rfl) ?_
  show Rn _ 1000000 0 [some (.ref 0), some (.int (jI s)), some (.int (jI k))] [] _ _
  have hn0 := (ok.f fe_1_10).1
  have hn1 := (ok.f fe_1_10).2
  refine w_step rfl ?_
  refine w_aload rfl ?_
  refine w_iload rfl ?_
  refine w_callV1I (oj_0 _).choose_spec rfl (c_X8_isStone ok (by omega) (by omega)) ?_
  rintro z1 t1 ⟨rfl, hp1_0⟩
  rcases hp1_0 with ⟨rfl, hp1_0⟩ | ⟨rfl, hp1_0⟩
  · skip
    refine w_ieq (by omega) (fun _ => ?_) (fun h => absurd (by omega) h)
    refine w_step rfl ?_
    refine w_push kc_m1000000001 ?_
    refine w_retI rfl ?_
    exact ⟨rfl, (by first | (exact Or.inl ⟨by omega, by first | omega | (subst_vars; rfl)⟩) | (exact Or.inr (Or.inl ⟨by omega, by omega, by first | omega | (subst_vars; rfl)⟩)) | (exact Or.inr (Or.inr (⟨by omega, by omega, by first | omega | (subst_vars; rfl)⟩))))⟩
  refine w_ieq (by omega) (fun h => absurd h (by omega)) (fun _ => ?_)
  refine w_iload rfl ?_
  refine w_push kc_0 ?_
  refine w_push kc_5 ?_
  refine w_callS3I rfl (c_X8_within ok (by omega) (by omega) (by omega) (by omega) (by omega) (by omega)) ?_
  rintro z2 t2 ⟨rfl, hp2_0⟩
  rcases hp2_0 with ⟨rfl, hp2_0⟩ | ⟨rfl, hp2_0⟩
  · skip
    refine w_ine (by omega) (fun h => absurd h (by omega)) (fun _ => ?_)
    refine w_goto ?_
    refine w_step rfl ?_
    refine w_push kc_m1000000001 ?_
    refine w_retI rfl ?_
    exact ⟨rfl, (by first | (exact Or.inl ⟨by omega, by first | omega | (subst_vars; rfl)⟩) | (exact Or.inr (Or.inl ⟨by omega, by omega, by first | omega | (subst_vars; rfl)⟩)) | (exact Or.inr (Or.inr (⟨by omega, by omega, by first | omega | (subst_vars; rfl)⟩))))⟩
  refine w_ine (by omega) (fun _ => ?_) (fun h => absurd (by omega) h)
  refine w_step rfl ?_
  refine w_aload rfl ?_
  refine w_getR (g_0_0 _) ?_
  refine w_getR (g_1_0 _) ?_
  refine w_iload rfl ?_
  refine w_iald (i := (s).toNat) (ai_2 _) (by omega) (by omega) (ae_2 _) ok (fun z3 hz3 hl3 hh3 => ?_)
  refine w_iload rfl ?_
  refine w_callS2I rfl (c_X0_isOf ok (by omega) (by omega) (by omega) (by omega)) ?_
  rintro z4 t4 ⟨rfl, hp4_0⟩
  rcases hp4_0 with ⟨rfl, hp4_0⟩ | ⟨rfl, hp4_0⟩
  · skip
    refine w_ieq (by omega) (fun _ => ?_) (fun h => absurd (by omega) h)
    refine w_step rfl ?_
    refine w_push kc_m1000000012 ?_
    refine w_goto ?_
    refine w_step rfl ?_
    refine w_retI rfl ?_
    exact ⟨rfl, (by first | (exact Or.inl ⟨by omega, by first | omega | (subst_vars; rfl)⟩) | (exact Or.inr (Or.inl ⟨by omega, by omega, by first | omega | (subst_vars; rfl)⟩)) | (exact Or.inr (Or.inr (⟨by omega, by omega, by first | omega | (subst_vars; rfl)⟩))))⟩
  refine w_ieq (by omega) (fun h => absurd h (by omega)) (fun _ => ?_)
  refine w_aload rfl ?_
  refine w_getR (g_0_0 _) ?_
  refine w_getR (g_1_1 _) ?_
  refine w_iload rfl ?_
  refine w_iald (i := (s).toNat) (ai_3 _) (by omega) (by omega) (ae_3 _) ok (fun z5 hz5 hl5 hh5 => ?_)
  refine w_goto ?_
  refine w_step rfl ?_
  refine w_retI rfl ?_
  exact ⟨rfl, (by first | (exact Or.inl ⟨by omega, by first | omega | (subst_vars; rfl)⟩) | (exact Or.inr (Or.inl ⟨by omega, by omega, by first | omega | (subst_vars; rfl)⟩)) | (exact Or.inr (Or.inr (⟨by omega, by omega, by first | omega | (subst_vars; rfl)⟩))))⟩
set_option maxRecDepth 100000 in
set_option maxHeartbeats 4000000 in
theorem c_X8_turns {d : Nat} {t : TS} {s k : Int}  (ok : OK t) (q0 : -2147483648 ≤ s) (q1 : s ≤ 2147483647) (q2 : -2147483648 ≤ k) (q3 : k ≤ 2147483647) : CI (EX FU (d + 6)) 79 [.ref 0, .int (jI s), .int (jI k)] (mk t) (fun z t' => OK t' ∧ Fr [(2, 100), (9, 100)] t t' ∧ (((¬ (0 ≤ s ∧ s ≤ tI t 1 10 - 1 ∧ 0 ≤ k ∧ k ≤ 5)) ∧ z = (-1000000001) ∧ t' = t) ∨ ((0 ≤ s ∧ s ≤ tI t 1 10 - 1 ∧ 0 ≤ k ∧ k ≤ 5) ∧ z = tA t 2 s.toNat ∧ (∀ i, tA t' 2 i = if i = s.toNat then k else tA t 2 i)))) := by
  refine CI_ent (d := d + 5) (Bk := bX8_turns) (nL := 4) rfl rfl rfl (Nat.le_of_ble_eq_true rfl) ?_
  show Rn _ 1000000 0 [some (.ref 0), some (.int (jI s)), some (.int (jI k)), none] [] _ _
  have fr : Fr [(2, 100), (9, 100)] t t := Fr.rf _ _
  have hn0 := (ok.f fe_1_10).1
  have hn1 := (ok.f fe_1_10).2
  refine w_step rfl ?_
  refine w_aload rfl ?_
  refine w_iload rfl ?_
  refine w_callV1I (oj_0 _).choose_spec rfl (c_X8_isStone ok (by omega) (by omega)) ?_
  rintro z1 t1 ⟨rfl, hp1_0⟩
  rcases hp1_0 with ⟨rfl, hp1_0⟩ | ⟨rfl, hp1_0⟩
  · skip
    refine w_ieq (by omega) (fun _ => ?_) (fun h => absurd (by omega) h)
    refine w_step rfl ?_
    refine w_push kc_m1000000001 ?_
    refine w_retI rfl ?_
    exact ⟨ok, fr, (by first | (exact Or.inl ⟨by omega, by first | omega | (subst_vars; rfl), rfl⟩) | (exact Or.inr (⟨by omega, by first | omega | (subst_vars; rfl), by intro i; rw [e2.2.1 2 (by simp) i, e1, tA_uA]; simp⟩)))⟩
  refine w_ieq (by omega) (fun h => absurd h (by omega)) (fun _ => ?_)
  refine w_iload rfl ?_
  refine w_push kc_0 ?_
  refine w_push kc_5 ?_
  refine w_callS3I rfl (c_X8_within ok (by omega) (by omega) (by omega) (by omega) (by omega) (by omega)) ?_
  rintro z2 t2 ⟨rfl, hp2_0⟩
  rcases hp2_0 with ⟨rfl, hp2_0⟩ | ⟨rfl, hp2_0⟩
  · skip
    refine w_ine (by omega) (fun h => absurd h (by omega)) (fun _ => ?_)
    refine w_goto ?_
    refine w_step rfl ?_
    refine w_push kc_m1000000001 ?_
    refine w_retI rfl ?_
    exact ⟨ok, fr, (by first | (exact Or.inl ⟨by omega, by first | omega | (subst_vars; rfl), rfl⟩) | (exact Or.inr (⟨by omega, by first | omega | (subst_vars; rfl), by intro i; rw [e2.2.1 2 (by simp) i, e1, tA_uA]; simp⟩)))⟩
  refine w_ine (by omega) (fun _ => ?_) (fun h => absurd (by omega) h)
  refine w_step rfl ?_
  refine w_aload rfl ?_
  refine w_getR (g_0_0 _) ?_
  refine w_getR (g_1_0 _) ?_
  refine w_iload rfl ?_
  refine w_iald (i := (s).toNat) (ai_2 _) (by omega) (by omega) (ae_2 _) ok (fun z3 hz3 hl3 hh3 => ?_)
  refine w_istore (lv' := [some (.ref 0), some (.int (jI s)), some (.int (jI k)), some (.int (jI z3))]) rfl ?_
  refine w_aload rfl ?_
  refine w_getR (g_0_0 _) ?_
  refine w_getR (g_1_0 _) ?_
  refine w_iload rfl ?_
  refine w_iload rfl ?_
  refine w_iast (i := (s).toNat) (ai_2 _) rfl (by omega) (by omega) (ae_2 _) ok (by omega) (fun t4 ht4 ok4 => ?_)
  have fr4 := fr.uA ht4 (by simp)
  have e1 := ht4
  refine w_aload rfl ?_
  refine w_getR (g_0_0 _) ?_
  refine w_iload rfl ?_
  refine w_callV1V (oj_1 _).choose_spec rfl (c_X4_darken isT1 ok4 (by omega) (by omega)) ?_
  rintro t5 ⟨ok5, fq5⟩
  have fr5 := fr4.then fq5 (by simp)
  have e2 := fq5
  refine w_iload rfl ?_
  refine w_retI rfl ?_
  exact ⟨ok5, fr5, (by first | (exact Or.inl ⟨by omega, by first | omega | (subst_vars; rfl), rfl⟩) | (exact Or.inr (⟨by omega, by first | omega | (subst_vars; rfl), by intro i; rw [e2.2.1 2 (by simp) i, e1, tA_uA]; simp⟩)))⟩
set_option maxRecDepth 100000 in
set_option maxHeartbeats 4000000 in
theorem c_X8_put {d : Nat} {t : TS} {s p u : Int}  (ok : OK t) (q0 : -2147483648 ≤ s) (q1 : s ≤ 2147483647) (q2 : -2147483648 ≤ p) (q3 : p ≤ 2147483647) (q4 : -2147483648 ≤ u) (q5 : u ≤ 2147483647) : CI (EX FU (d + 3)) 80 [.ref 0, .int (jI s), .int (jI p), .int (jI u)] (mk t) (fun z t' => OK t' ∧ Fr [(5, 100), (6, 100), (7, 100)] t t' ∧ (-2147483648 ≤ z) ∧ (z ≤ 2147483647)) := by
  refine CI_ent (d := d + 2) (Bk := bX8_put) (nL := 5) rfl rfl rfl (Nat.le_of_ble_eq_true rfl) ?_
  show Rn _ 1000000 0 [some (.ref 0), some (.int (jI s)), some (.int (jI p)), some (.int (jI u)), none] [] _ _
  have fr : Fr [(5, 100), (6, 100), (7, 100)] t t := Fr.rf _ _
  have hn0 := (ok.f fe_1_10).1
  have hn1 := (ok.f fe_1_10).2
  refine w_step rfl ?_
  refine w_aload rfl ?_
  refine w_iload rfl ?_
  refine w_callV1I (oj_0 _).choose_spec rfl (c_X8_isStone ok (by omega) (by omega)) ?_
  rintro z1 t1 ⟨rfl, hp1_0⟩
  rcases hp1_0 with ⟨rfl, hp1_0⟩ | ⟨rfl, hp1_0⟩
  · skip
    refine w_ieq (by omega) (fun _ => ?_) (fun h => absurd (by omega) h)
    refine w_step rfl ?_
    refine w_push kc_m1000000001 ?_
    refine w_retI rfl ?_
    exact ⟨ok, fr, (by omega), (by omega)⟩
  refine w_ieq (by omega) (fun h => absurd h (by omega)) (fun _ => ?_)
  refine w_iload rfl ?_
  refine w_callS1I rfl (c_X8_isPlace ok (by omega) (by omega)) ?_
  rintro z2 t2 ⟨rfl, hp2_0⟩
  rcases hp2_0 with ⟨rfl, hp2_0⟩ | ⟨rfl, hp2_0⟩
  · skip
    refine w_ieq (by omega) (fun _ => ?_) (fun h => absurd (by omega) h)
    refine w_step rfl ?_
    refine w_push kc_m1000000001 ?_
    refine w_retI rfl ?_
    exact ⟨ok, fr, (by omega), (by omega)⟩
  refine w_ieq (by omega) (fun h => absurd h (by omega)) (fun _ => ?_)
  refine w_iload rfl ?_
  refine w_push kc_0 ?_
  refine w_push kc_1 ?_
  refine w_callS3I rfl (c_X8_within ok (by omega) (by omega) (by omega) (by omega) (by omega) (by omega)) ?_
  rintro z3 t3 ⟨rfl, hp3_0⟩
  rcases hp3_0 with ⟨rfl, hp3_0⟩ | ⟨rfl, hp3_0⟩
  · skip
    refine w_ine (by omega) (fun h => absurd h (by omega)) (fun _ => ?_)
    refine w_goto ?_
    refine w_step rfl ?_
    refine w_push kc_m1000000001 ?_
    refine w_retI rfl ?_
    exact ⟨ok, fr, (by omega), (by omega)⟩
  refine w_ine (by omega) (fun _ => ?_) (fun h => absurd (by omega) h)
  refine w_step rfl ?_
  refine w_aload rfl ?_
  refine w_getR (g_0_0 _) ?_
  refine w_getR (g_1_5 _) ?_
  refine w_iload rfl ?_
  refine w_iald (i := (p).toNat) (ai_7 _) (by omega) (by omega) (ae_7 _) ok (fun z4 hz4 hl4 hh4 => ?_)
  refine w_push kc_m1 ?_
  refine w_ceq (by omega) (fun h5 => ?_) (fun h5 => ?_)
  · skip
    refine w_step rfl ?_
    refine w_aload rfl ?_
    refine w_getR (g_0_0 _) ?_
    refine w_getR (g_1_3 _) ?_
    refine w_iload rfl ?_
    refine w_iald (i := (s).toNat) (ai_5 _) (by omega) (by omega) (ae_5 _) ok (fun z6 hz6 hl6 hh6 => ?_)
    refine w_istore (lv' := [some (.ref 0), some (.int (jI s)), some (.int (jI p)), some (.int (jI u)), some (.int (jI z6))]) rfl ?_
    refine w_aload rfl ?_
    refine w_getR (g_0_0 _) ?_
    refine w_iload rfl ?_
    refine w_iload rfl ?_
    refine w_callV2V (oj_1 _).choose_spec rfl (c_X4_moveTo isT1 ok (by omega) (by omega) (by omega) (by omega)) ?_
    rintro t7 ⟨ok7, fq7⟩
    have fr7 := fr.then fq7 (by simp)
    refine w_aload rfl ?_
    refine w_getR (g_0_0 _) ?_
    refine w_getR (g_1_4 _) ?_
    refine w_iload rfl ?_
    refine w_iload rfl ?_
    refine w_iast (i := (s).toNat) (ai_6 _) rfl (by omega) (by omega) (ae_6 _) ok7 (by omega) (fun t8 ht8 ok8 => ?_)
    have fr8 := fr7.uA ht8 (by simp)
    refine w_iload rfl ?_
    refine w_retI rfl ?_
    exact ⟨ok8, fr8, (by omega), (by omega)⟩
  refine w_aload rfl ?_
  refine w_getR (g_0_0 _) ?_
  refine w_getR (g_1_5 _) ?_
  refine w_iload rfl ?_
  refine w_iald (i := (p).toNat) (ai_7 _) (by omega) (by omega) (ae_7 _) ok (fun z9 hz9 hl9 hh9 => ?_)
  refine w_iload rfl ?_
  refine w_ceq (by omega) (fun h10 => ?_) (fun h10 => ?_)
  · skip
    refine w_step rfl ?_
    refine w_aload rfl ?_
    refine w_getR (g_0_0 _) ?_
    refine w_getR (g_1_3 _) ?_
    refine w_iload rfl ?_
    refine w_iald (i := (s).toNat) (ai_5 _) (by omega) (by omega) (ae_5 _) ok (fun z11 hz11 hl11 hh11 => ?_)
    refine w_istore (lv' := [some (.ref 0), some (.int (jI s)), some (.int (jI p)), some (.int (jI u)), some (.int (jI z11))]) rfl ?_
    refine w_aload rfl ?_
    refine w_getR (g_0_0 _) ?_
    refine w_iload rfl ?_
    refine w_iload rfl ?_
    refine w_callV2V (oj_1 _).choose_spec rfl (c_X4_moveTo isT1 ok (by omega) (by omega) (by omega) (by omega)) ?_
    rintro t12 ⟨ok12, fq12⟩
    have fr12 := fr.then fq12 (by simp)
    refine w_aload rfl ?_
    refine w_getR (g_0_0 _) ?_
    refine w_getR (g_1_4 _) ?_
    refine w_iload rfl ?_
    refine w_iload rfl ?_
    refine w_iast (i := (s).toNat) (ai_6 _) rfl (by omega) (by omega) (ae_6 _) ok12 (by omega) (fun t13 ht13 ok13 => ?_)
    have fr13 := fr12.uA ht13 (by simp)
    refine w_iload rfl ?_
    refine w_retI rfl ?_
    exact ⟨ok13, fr13, (by omega), (by omega)⟩
  refine w_push kc_m1000000002 ?_
  refine w_retI rfl ?_
  exact ⟨ok, fr, (by omega), (by omega)⟩
set_option maxRecDepth 100000 in
set_option maxHeartbeats 4000000 in
theorem c_X8_box {d : Nat} {t : TS} {s : Int}  (ok : OK t) (q0 : -2147483648 ≤ s) (q1 : s ≤ 2147483647) : CI (EX FU (d + 3)) 81 [.ref 0, .int (jI s)] (mk t) (fun z t' => OK t' ∧ Fr [(5, 100), (7, 100)] t t' ∧ (-2147483648 ≤ z) ∧ (z ≤ 2147483647)) := by
  refine CI_ent (d := d + 2) (Bk := bX8_box) (nL := 3) rfl rfl rfl (Nat.le_of_ble_eq_true rfl) ?_
  show Rn _ 1000000 0 [some (.ref 0), some (.int (jI s)), none] [] _ _
  have fr : Fr [(5, 100), (7, 100)] t t := Fr.rf _ _
  have hn0 := (ok.f fe_1_10).1
  have hn1 := (ok.f fe_1_10).2
  refine w_step rfl ?_
  refine w_aload rfl ?_
  refine w_iload rfl ?_
  refine w_callV1I (oj_0 _).choose_spec rfl (c_X8_isStone ok (by omega) (by omega)) ?_
  rintro z1 t1 ⟨rfl, hp1_0⟩
  rcases hp1_0 with ⟨rfl, hp1_0⟩ | ⟨rfl, hp1_0⟩
  · skip
    refine w_ine (by omega) (fun h => absurd h (by omega)) (fun _ => ?_)
    refine w_push kc_m1000000001 ?_
    refine w_retI rfl ?_
    exact ⟨ok, fr, (by omega), (by omega)⟩
  refine w_ine (by omega) (fun _ => ?_) (fun h => absurd (by omega) h)
  refine w_step rfl ?_
  refine w_aload rfl ?_
  refine w_getR (g_0_0 _) ?_
  refine w_getR (g_1_3 _) ?_
  refine w_iload rfl ?_
  refine w_iald (i := (s).toNat) (ai_5 _) (by omega) (by omega) (ae_5 _) ok (fun z2 hz2 hl2 hh2 => ?_)
  refine w_istore (lv' := [some (.ref 0), some (.int (jI s)), some (.int (jI z2))]) rfl ?_
  refine w_aload rfl ?_
  refine w_getR (g_0_0 _) ?_
  refine w_iload rfl ?_
  refine w_push kc_12 ?_
  refine w_callV2V (oj_1 _).choose_spec rfl (c_X4_moveTo isT1 ok (by omega) (by omega) (by omega) (by omega)) ?_
  rintro t3 ⟨ok3, fq3⟩
  have fr3 := fr.then fq3 (by simp)
  refine w_iload rfl ?_
  refine w_retI rfl ?_
  exact ⟨ok3, fr3, (by omega), (by omega)⟩
set_option maxRecDepth 100000 in
set_option maxHeartbeats 4000000 in
theorem c_X8_want {d : Nat} {t : TS} {c v : Int}  (ok : OK t) (q0 : -2147483648 ≤ c) (q1 : c ≤ 2147483647) (q2 : -2147483648 ≤ v) (q3 : v ≤ 2147483647) : CI (EX FU (d + 2)) 82 [.ref 0, .int (jI c), .int (jI v)] (mk t) (fun z t' => OK t' ∧ Fr [(8, 100)] t t' ∧ (((¬ (0 ≤ c ∧ c ≤ 23 ∧ 0 ≤ v ∧ v ≤ 99)) ∧ z = (-1000000001) ∧ t' = t) ∨ ((0 ≤ c ∧ c ≤ 23 ∧ 0 ≤ v ∧ v ≤ 99) ∧ z = tA t 8 c.toNat ∧ (t' = uA t 8 c.toNat v)))) := by
  refine CI_ent (d := d + 1) (Bk := bX8_want) (nL := 4) rfl rfl rfl (Nat.le_of_ble_eq_true rfl) ?_
  show Rn _ 1000000 0 [some (.ref 0), some (.int (jI c)), some (.int (jI v)), none] [] _ _
  have fr : Fr [(8, 100)] t t := Fr.rf _ _
  have hn0 := (ok.f fe_1_10).1
  have hn1 := (ok.f fe_1_10).2
  refine w_step rfl ?_
  refine w_iload rfl ?_
  refine w_push kc_0 ?_
  refine w_push kc_23 ?_
  refine w_callS3I rfl (c_X8_within ok (by omega) (by omega) (by omega) (by omega) (by omega) (by omega)) ?_
  rintro z1 t1 ⟨rfl, hp1_0⟩
  rcases hp1_0 with ⟨rfl, hp1_0⟩ | ⟨rfl, hp1_0⟩
  · skip
    refine w_ieq (by omega) (fun _ => ?_) (fun h => absurd (by omega) h)
    refine w_step rfl ?_
    refine w_push kc_m1000000001 ?_
    refine w_retI rfl ?_
    exact ⟨ok, fr, (by first | (exact Or.inl ⟨by omega, by first | omega | (subst_vars; rfl), rfl⟩) | (exact Or.inr (⟨by omega, by first | omega | (subst_vars; rfl), by assumption⟩)))⟩
  refine w_ieq (by omega) (fun h => absurd h (by omega)) (fun _ => ?_)
  refine w_iload rfl ?_
  refine w_push kc_0 ?_
  refine w_push kc_99 ?_
  refine w_callS3I rfl (c_X8_within ok (by omega) (by omega) (by omega) (by omega) (by omega) (by omega)) ?_
  rintro z2 t2 ⟨rfl, hp2_0⟩
  rcases hp2_0 with ⟨rfl, hp2_0⟩ | ⟨rfl, hp2_0⟩
  · skip
    refine w_ine (by omega) (fun h => absurd h (by omega)) (fun _ => ?_)
    refine w_goto ?_
    refine w_step rfl ?_
    refine w_push kc_m1000000001 ?_
    refine w_retI rfl ?_
    exact ⟨ok, fr, (by first | (exact Or.inl ⟨by omega, by first | omega | (subst_vars; rfl), rfl⟩) | (exact Or.inr (⟨by omega, by first | omega | (subst_vars; rfl), by assumption⟩)))⟩
  refine w_ine (by omega) (fun _ => ?_) (fun h => absurd (by omega) h)
  refine w_step rfl ?_
  refine w_aload rfl ?_
  refine w_getR (g_0_0 _) ?_
  refine w_getR (g_1_6 _) ?_
  refine w_iload rfl ?_
  refine w_iald (i := (c).toNat) (ai_8 _) (by omega) (by omega) (ae_8 _) ok (fun z3 hz3 hl3 hh3 => ?_)
  refine w_istore (lv' := [some (.ref 0), some (.int (jI c)), some (.int (jI v)), some (.int (jI z3))]) rfl ?_
  refine w_aload rfl ?_
  refine w_getR (g_0_0 _) ?_
  refine w_getR (g_1_6 _) ?_
  refine w_iload rfl ?_
  refine w_iload rfl ?_
  refine w_iast (i := (c).toNat) (ai_8 _) rfl (by omega) (by omega) (ae_8 _) ok (by omega) (fun t4 ht4 ok4 => ?_)
  have fr4 := fr.uA ht4 (by simp)
  refine w_iload rfl ?_
  refine w_retI rfl ?_
  exact ⟨ok4, fr4, (by first | (exact Or.inl ⟨by omega, by first | omega | (subst_vars; rfl), rfl⟩) | (exact Or.inr (⟨by omega, by first | omega | (subst_vars; rfl), by assumption⟩)))⟩
set_option maxRecDepth 100000 in
set_option maxHeartbeats 4000000 in
theorem c_X8_wind {d : Nat} {t : TS} {v : Int}  (ok : OK t) (q0 : -2147483648 ≤ v) (q1 : v ≤ 2147483647) : CI (EX FU (d + 2)) 83 [.ref 0, .int (jI v)] (mk t) (fun z t' => OK t' ∧ Fr [(1, 12)] t t' ∧ (((¬ (0 ≤ v ∧ v ≤ 100)) ∧ z = (-1000000001) ∧ t' = t) ∨ ((0 ≤ v ∧ v ≤ 100) ∧ z = tI t 1 12 ∧ (t' = uI t 1 12 v)))) := by
  refine CI_ent (d := d + 1) (Bk := bX8_wind) (nL := 3) rfl rfl rfl (Nat.le_of_ble_eq_true rfl) ?_
  show Rn _ 1000000 0 [some (.ref 0), some (.int (jI v)), none] [] _ _
  have fr : Fr [(1, 12)] t t := Fr.rf _ _
  have hn0 := (ok.f fe_1_10).1
  have hn1 := (ok.f fe_1_10).2
  refine w_step rfl ?_
  refine w_iload rfl ?_
  refine w_push kc_0 ?_
  refine w_push kc_100 ?_
  refine w_callS3I rfl (c_X8_within ok (by omega) (by omega) (by omega) (by omega) (by omega) (by omega)) ?_
  rintro z1 t1 ⟨rfl, hp1_0⟩
  rcases hp1_0 with ⟨rfl, hp1_0⟩ | ⟨rfl, hp1_0⟩
  · skip
    refine w_ine (by omega) (fun h => absurd h (by omega)) (fun _ => ?_)
    refine w_push kc_m1000000001 ?_
    refine w_retI rfl ?_
    exact ⟨ok, fr, (by first | (exact Or.inl ⟨by omega, by first | omega | (subst_vars; rfl), rfl⟩) | (exact Or.inr (⟨by omega, by first | omega | (subst_vars; rfl), by assumption⟩)))⟩
  refine w_ine (by omega) (fun _ => ?_) (fun h => absurd (by omega) h)
  refine w_step rfl ?_
  refine w_aload rfl ?_
  refine w_getR (g_0_0 _) ?_
  refine w_getI (g_1_12 _) fe_1_12 ok (fun z2 hz2 hl2 hh2 => ?_)
  refine w_istore (lv' := [some (.ref 0), some (.int (jI v)), some (.int (jI z2))]) rfl ?_
  refine w_aload rfl ?_
  refine w_getR (g_0_0 _) ?_
  refine w_iload rfl ?_
  refine w_putI (p_1_12 _) fe_1_12 ok (by omega) (fun t3 ht3 ok3 => ?_)
  have fr3 := fr.uI ht3 (by simp)
  refine w_iload rfl ?_
  refine w_retI rfl ?_
  exact ⟨ok3, fr3, (by first | (exact Or.inl ⟨by omega, by first | omega | (subst_vars; rfl), rfl⟩) | (exact Or.inr (⟨by omega, by first | omega | (subst_vars; rfl), by assumption⟩)))⟩
set_option maxRecDepth 100000 in
set_option maxHeartbeats 4000000 in
theorem c_X8_deal {d : Nat} {t : TS} {n : Int}  (ok : OK t) (q0 : -2147483648 ≤ n) (q1 : n ≤ 2147483647) : CI (EX FU (d + 8)) 84 [.ref 0, .int (jI n)] (mk t) (fun z t' => OK t' ∧ Fr [(1, 10), (1, 14), (2, 100), (3, 100), (4, 100), (5, 100), (6, 100), (9, 100)] t t' ∧ (((¬ (1 ≤ n ∧ n ≤ 12)) ∧ z = (-1000000001) ∧ t' = t) ∨ ((1 ≤ n ∧ n ≤ 12) ∧ z = min n (12 - tI t 1 10) ∧ (tI t' 1 10 = tI t 1 10 + min n (12 - tI t 1 10)) ∧ (tI t' 1 14 = dzF (min n (12 - tI t 1 10)).toNat (tI t 1 14)) ∧ (∀ m : Nat, tA t' 2 m = if tI t 1 10 ≤ (m : Int) ∧ (m : Int) < tI t 1 10 + min n (12 - tI t 1 10) then kdF (tI t 1 14) (m - (tI t 1 10).toNat) else tA t 2 m) ∧ (∀ m : Nat, tA t' 3 m = if tI t 1 10 ≤ (m : Int) ∧ (m : Int) < tI t 1 10 + min n (12 - tI t 1 10) then ldF (tI t 1 14) (m - (tI t 1 10).toNat) else tA t 3 m) ∧ (∀ m : Nat, tA t' 4 m = if tI t 1 10 ≤ (m : Int) ∧ (m : Int) < tI t 1 10 + min n (12 - tI t 1 10) then rdF (tI t 1 14) (m - (tI t 1 10).toNat) else tA t 4 m)))) := by
  refine CI_ent (d := d + 7) (Bk := bX8_deal) (nL := 4) rfl rfl rfl (Nat.le_of_ble_eq_true rfl) ?_
  show Rn _ 1000000 0 [some (.ref 0), some (.int (jI n)), none, none] [] _ _
  have fr : Fr [(1, 10), (1, 14), (2, 100), (3, 100), (4, 100), (5, 100), (6, 100), (9, 100)] t t := Fr.rf _ _
  have hn0 := (ok.f fe_1_10).1
  have hn1 := (ok.f fe_1_10).2
  refine w_step rfl ?_
  refine w_iload rfl ?_
  refine w_push kc_1 ?_
  refine w_push kc_12 ?_
  refine w_callS3I rfl (c_X8_within ok (by omega) (by omega) (by omega) (by omega) (by omega) (by omega)) ?_
  rintro z1 t1 ⟨rfl, hp1_0⟩
  rcases hp1_0 with ⟨rfl, hp1_0⟩ | ⟨rfl, hp1_0⟩
  · skip
    refine w_ine (by omega) (fun h => absurd h (by omega)) (fun _ => ?_)
    refine w_push kc_m1000000001 ?_
    refine w_retI rfl ?_
    exact ⟨ok, fr, (by first | (exact Or.inl ⟨by omega, by first | omega | (subst_vars; rfl), rfl⟩) | (exact Or.inr (⟨by omega, by first | omega | (subst_vars; rfl), by omega, by rw [i2_3, show i = min n (12 - tI t 1 10) by omega], by have e : i = min n (12 - tI t 1 10) := (by omega); rw [← e]; exact i2_4, by have e : i = min n (12 - tI t 1 10) := (by omega); rw [← e]; exact i2_5, by have e : i = min n (12 - tI t 1 10) := (by omega); rw [← e]; exact i2_6⟩)))⟩
  refine w_ine (by omega) (fun _ => ?_) (fun h => absurd (by omega) h)
  refine w_step rfl ?_
  refine w_iload rfl ?_
  refine w_push kc_12 ?_
  refine w_aload rfl ?_
  refine w_getR (g_0_0 _) ?_
  refine w_getI (g_1_10 _) fe_1_10 ok (fun z2 hz2 hl2 hh2 => ?_)
  have en := hz2
  refine w_sub ?_
  refine w_min rfl (by omega) ?_
  
  refine w_istore (lv' := [some (.ref 0), some (.int (jI n)), some (.int (jI (min n (12 - z2)))), none]) rfl ?_
  refine w_push kc_0 ?_
  refine w_istore (lv' := [some (.ref 0), some (.int (jI n)), some (.int (jI (min n (12 - z2)))), some (.int (jI 0))]) rfl ?_
  refine w_goto ?_
  have key2 : ∀ (n2 M2 : Nat) (i : Int) (t3 : TS), OK t3 → Fr [(1, 10), (1, 14), (2, 100), (3, 100), (4, 100), (5, 100), (6, 100), (9, 100)] t t3 → (0 ≤ i) → (i ≤ (min n (12 - tI t 1 10))) → (tI t3 1 10 = tI t 1 10 + i) → (tI t3 1 14 = dzF i.toNat (tI t 1 14)) → (∀ m : Nat, tA t3 2 m = if tI t 1 10 ≤ (m : Int) ∧ (m : Int) < tI t 1 10 + i then kdF (tI t 1 14) (m - (tI t 1 10).toNat) else tA t 2 m) → (∀ m : Nat, tA t3 3 m = if tI t 1 10 ≤ (m : Int) ∧ (m : Int) < tI t 1 10 + i then ldF (tI t 1 14) (m - (tI t 1 10).toNat) else tA t 3 m) → (∀ m : Nat, tA t3 4 m = if tI t 1 10 ≤ (m : Int) ∧ (m : Int) < tI t 1 10 + i then rdF (tI t 1 14) (m - (tI t 1 10).toNat) else tA t 4 m) → 12 - i < (n2 : Int) → 60 * n2 + (1000) ≤ M2 → Rn (bX8_deal (EX FU (d + 7))) M2 2 [some (.ref 0), some (.int (jI n)), some (.int (jI (min n (12 - z2)))), some (.int (jI i))] [] (mk t3) (PI (fun z t' => OK t' ∧ Fr [(1, 10), (1, 14), (2, 100), (3, 100), (4, 100), (5, 100), (6, 100), (9, 100)] t t' ∧ (((¬ (1 ≤ n ∧ n ≤ 12)) ∧ z = (-1000000001) ∧ t' = t) ∨ ((1 ≤ n ∧ n ≤ 12) ∧ z = min n (12 - tI t 1 10) ∧ (tI t' 1 10 = tI t 1 10 + min n (12 - tI t 1 10)) ∧ (tI t' 1 14 = dzF (min n (12 - tI t 1 10)).toNat (tI t 1 14)) ∧ (∀ m : Nat, tA t' 2 m = if tI t 1 10 ≤ (m : Int) ∧ (m : Int) < tI t 1 10 + min n (12 - tI t 1 10) then kdF (tI t 1 14) (m - (tI t 1 10).toNat) else tA t 2 m) ∧ (∀ m : Nat, tA t' 3 m = if tI t 1 10 ≤ (m : Int) ∧ (m : Int) < tI t 1 10 + min n (12 - tI t 1 10) then ldF (tI t 1 14) (m - (tI t 1 10).toNat) else tA t 3 m) ∧ (∀ m : Nat, tA t' 4 m = if tI t 1 10 ≤ (m : Int) ∧ (m : Int) < tI t 1 10 + min n (12 - tI t 1 10) then rdF (tI t 1 14) (m - (tI t 1 10).toNat) else tA t 4 m))))) := by
    intro n2
    induction n2 with
    | zero => intro M2 i t3 ok3 fr3 i2_0 i2_1 i2_2 i2_3 i2_4 i2_5 i2_6 v2 f2; exfalso; omega
    | succ n2 ih2 =>
      intro M2 i t3 ok3 fr3 i2_0 i2_1 i2_2 i2_3 i2_4 i2_5 i2_6 v2 f2
      obtain ⟨M2, rfl⟩ : ∃ m, M2 = m + 60 := ⟨M2 - 60, by omega⟩
      refine w_step rfl ?_
      refine w_iload rfl ?_
      refine w_iload rfl ?_
      refine w_cge (by omega) (fun h4 => ?_) (fun h4 => ?_)
      · skip
        refine w_step rfl ?_
        refine w_iload rfl ?_
        refine w_retI rfl ?_
        exact ⟨ok3, fr3, (by first | (exact Or.inl ⟨by omega, by first | omega | (subst_vars; rfl), rfl⟩) | (exact Or.inr (⟨by omega, by first | omega | (subst_vars; rfl), by omega, by rw [i2_3, show i = min n (12 - tI t 1 10) by omega], by have e : i = min n (12 - tI t 1 10) := (by omega); rw [← e]; exact i2_4, by have e : i = min n (12 - tI t 1 10) := (by omega); rw [← e]; exact i2_5, by have e : i = min n (12 - tI t 1 10) := (by omega); rw [← e]; exact i2_6⟩)))⟩
      refine w_aload rfl ?_
      refine w_getR (g_0_0 _) ?_
      refine w_callV0V (oj_1 _).choose_spec rfl (c_X4_drawStone isT1 ok3 (by omega)) ?_
      rintro t5 ⟨ok5, fq5, hp5_0, hp5_1, hp5_2, hp5_3, hp5_4⟩
      have fr5 := fr3.then fq5 (by simp)
      have ez : tI t5 1 14 = dzF (i + 1).toNat (tI t 1 14) := by rw [hp5_0, i2_3, show (i + 1).toNat = i.toNat + 1 by omega]; rfl
      have e1 := hp5_1
      have e2 := hp5_2
      have e3 := hp5_3
      have e4 := hp5_4
      refine w_iinc (lv' := [some (.ref 0), some (.int (jI n)), some (.int (jI (min n (12 - z2)))), some (.int (jI (i + 1)))]) kc_1 rfl rfl ?_
      refine w_goto ?_
      exact ih2 _ (i + 1) t5 ok5 fr5 (by omega) (by omega) (by omega) ez (deal_step hn0 i2_0 (by omega) i2_4 e2 (by rw [i2_3]; rfl)) (deal_step hn0 i2_0 (by omega) i2_5 e3 (by rw [i2_3]; rfl)) (deal_step hn0 i2_0 (by omega) i2_6 e4 (by rw [i2_3]; rfl)) (by omega) (by omega)
  exact key2 13 _ 0 t ok fr (by omega) (by omega) (by omega) rfl (by intro m; rw [if_neg (by omega)]) (by intro m; rw [if_neg (by omega)]) (by intro m; rw [if_neg (by omega)]) (by omega) (by omega)
set_option maxRecDepth 100000 in
set_option maxHeartbeats 4000000 in
theorem c_X8_seed {d : Nat} {t : TS} {v : Int}  (ok : OK t) (q0 : -2147483648 ≤ v) (q1 : v ≤ 2147483647) : CI (EX FU (d + 1)) 85 [.ref 0, .int (jI v)] (mk t) (fun z t' => OK t' ∧ Fr [(1, 14)] t t' ∧ (z = tI t 1 14) ∧ (t' = uI t 1 14 v)) := by
  refine CI_ent (d := d + 0) (Bk := bX8_seed) (nL := 3) rfl rfl rfl (Nat.le_of_ble_eq_true rfl) ?_
  show Rn _ 1000000 0 [some (.ref 0), some (.int (jI v)), none] [] _ _
  have fr : Fr [(1, 14)] t t := Fr.rf _ _
  have hn0 := (ok.f fe_1_10).1
  have hn1 := (ok.f fe_1_10).2
  refine w_step rfl ?_
  refine w_aload rfl ?_
  refine w_getR (g_0_0 _) ?_
  refine w_getI (g_1_14 _) fe_1_14 ok (fun z1 hz1 hl1 hh1 => ?_)
  refine w_istore (lv' := [some (.ref 0), some (.int (jI v)), some (.int (jI z1))]) rfl ?_
  refine w_aload rfl ?_
  refine w_getR (g_0_0 _) ?_
  refine w_iload rfl ?_
  refine w_putI (p_1_14 _) fe_1_14 ok (by omega) (fun t2 ht2 ok2 => ?_)
  have fr2 := fr.uI ht2 (by simp)
  refine w_iload rfl ?_
  refine w_retI rfl ?_
  exact ⟨ok2, fr2, (by omega), (by assumption)⟩
set_option maxRecDepth 100000 in
set_option maxHeartbeats 4000000 in
theorem c_X8_days {d : Nat} {t : TS} {n : Int}  (ok : OK t) (q0 : -2147483648 ≤ n) (q1 : n ≤ 2147483647) (q2 : 0 ≤ tI t 1 13) (q3 : tI t 1 13 ≤ 9999) : CI (EX FU (d + 6)) 86 [.ref 0, .int (jI n)] (mk t) (fun z t' => OK t' ∧ Fr [(1, 13), (1, 14), (5, 100), (6, 100), (7, 100)] t t' ∧ (-2147483648 ≤ z) ∧ (z ≤ 2147483647) ∧ (((¬ (1 ≤ n ∧ n ≤ 100)) ∧ z = (-1000000001) ∧ t' = t) ∨ ((1 ≤ n ∧ n ≤ 100) ∧ (tI t' 1 14 = zdsF (min n (9999 - tI t 1 13)).toNat (tI t 1 14) (tI t 1 12)) ∧ (tI t' 1 13 = tI t 1 13 + min n (9999 - tI t 1 13))))) := by
  refine CI_ent (d := d + 5) (Bk := bX8_days) (nL := 3) rfl rfl rfl (Nat.le_of_ble_eq_true rfl) ?_
  show Rn _ 1000000 0 [some (.ref 0), some (.int (jI n)), none] [] _ _
  have fr : Fr [(1, 13), (1, 14), (5, 100), (6, 100), (7, 100)] t t := Fr.rf _ _
  have hn0 := (ok.f fe_1_10).1
  have hn1 := (ok.f fe_1_10).2
  refine w_step rfl ?_
  refine w_iload rfl ?_
  refine w_push kc_1 ?_
  refine w_push kc_100 ?_
  refine w_callS3I rfl (c_X8_within ok (by omega) (by omega) (by omega) (by omega) (by omega) (by omega)) ?_
  rintro z1 t1 ⟨rfl, hp1_0⟩
  rcases hp1_0 with ⟨rfl, hp1_0⟩ | ⟨rfl, hp1_0⟩
  · skip
    refine w_ine (by omega) (fun h => absurd h (by omega)) (fun _ => ?_)
    refine w_push kc_m1000000001 ?_
    refine w_retI rfl ?_
    exact ⟨ok, fr, (by omega), (by omega), (by first | (exact Or.inl ⟨by omega, by first | omega | (subst_vars; rfl), rfl⟩) | (exact Or.inr (⟨by omega, by first | exact e1, by first | exact e2 | omega⟩)))⟩
  refine w_ine (by omega) (fun _ => ?_) (fun h => absurd (by omega) h)
  refine w_step rfl ?_
  refine w_aload rfl ?_
  refine w_getR (g_0_0 _) ?_
  refine w_callV0I (oj_1 _).choose_spec rfl (c_X4_laidStones isT1 ok) ?_
  rintro z2 t2 ⟨rfl, hp2_0, hp2_1⟩
  refine w_istore (lv' := [some (.ref 0), some (.int (jI n)), some (.int (jI z2))]) rfl ?_
  refine w_aload rfl ?_
  refine w_getR (g_0_0 _) ?_
  refine w_iload rfl ?_
  refine w_push kc_9999 ?_
  refine w_aload rfl ?_
  refine w_getR (g_0_0 _) ?_
  refine w_getI (g_1_13 _) fe_1_13 ok (fun z3 hz3 hl3 hh3 => ?_)
  have en := hz3
  refine w_sub ?_
  refine w_min rfl (by omega) ?_
  refine w_callV1V (oj_1 _).choose_spec rfl (c_X4_passDays isT1 ok (by omega) (by omega) (by omega)) ?_
  rintro t4 ⟨ok4, fq4, hp4_0, hp4_1⟩
  have fr4 := fr.then fq4 (by simp)
  have e1 := hp4_0
  rw [en] at e1
  have e2 := hp4_1 (by omega) (by omega) (by omega)
  refine w_aload rfl ?_
  refine w_getR (g_0_0 _) ?_
  refine w_callV0I (oj_1 _).choose_spec rfl (c_X4_laidStones isT1 ok4) ?_
  rintro z5 t5 ⟨rfl, hp5_0, hp5_1⟩
  refine w_iload rfl ?_
  refine w_subW (fun z6 hz6 hl6 hh6 => ?_)
  refine w_retI rfl ?_
  exact ⟨ok4, fr4, (by omega), (by omega), (by first | (exact Or.inl ⟨by omega, by first | omega | (subst_vars; rfl), rfl⟩) | (exact Or.inr (⟨by omega, by first | exact e1, by first | exact e2 | omega⟩)))⟩
set_option maxRecDepth 100000 in
set_option maxHeartbeats 4000000 in
theorem c_X8_king {d : Nat} {t : TS} {w : Int}  (ok : OK t) (q0 : -2147483648 ≤ w) (q1 : w ≤ 2147483647) : CI (EX FU (d + 4)) 87 [.ref 0, .int (jI w)] (mk t) (fun z t' => t = t' ∧ (-2147483648 ≤ z) ∧ (z ≤ 2147483647)) := by
  refine CI_ent (d := d + 3) (Bk := bX8_king) (nL := 2) rfl rfl rfl (Nat.le_of_ble_eq_true rfl) ?_
  show Rn _ 1000000 0 [some (.ref 0), some (.int (jI w))] [] _ _
  have hn0 := (ok.f fe_1_10).1
  have hn1 := (ok.f fe_1_10).2
  refine w_step rfl ?_
  refine w_iload rfl ?_
  have hs1 : w = 0 ∨ w = 1 ∨ w = 2 ∨ w = 3 ∨ (w < 0 ∨ 0 + 4 ≤ w) := (by omega)
  rcases hs1 with hs1 | hs1 | hs1 | hs1 | hs1
  · refine w_sw (n := 1) (tsw_at hs1 (by decide)) ?_
    refine w_step rfl ?_
    refine w_aload rfl ?_
    refine w_getR (g_0_0 _) ?_
    refine w_callV0I (oj_1 _).choose_spec rfl (c_X4_picture isT1 ok) ?_
    rintro z2 t2 ⟨rfl, hp2_0, hp2_1⟩
    refine w_retI rfl ?_
    exact ⟨rfl, (by omega), (by omega)⟩
  · refine w_sw (n := 2) (tsw_at hs1 (by decide)) ?_
    refine w_step rfl ?_
    refine w_aload rfl ?_
    refine w_getR (g_0_0 _) ?_
    refine w_callV0I (oj_1 _).choose_spec rfl (c_X4_matches isT1 ok) ?_
    rintro z3 t3 ⟨rfl, hp3_0, hp3_1⟩
    refine w_retI rfl ?_
    exact ⟨rfl, (by omega), (by omega)⟩
  · refine w_sw (n := 3) (tsw_at hs1 (by decide)) ?_
    refine w_step rfl ?_
    refine w_aload rfl ?_
    refine w_getR (g_0_0 _) ?_
    refine w_callV0I (oj_1 _).choose_spec rfl (c_X4_laidStones isT1 ok) ?_
    rintro z4 t4 ⟨rfl, hp4_0, hp4_1⟩
    refine w_retI rfl ?_
    exact ⟨rfl, (by omega), (by omega)⟩
  · refine w_sw (n := 4) (tsw_at hs1 (by decide)) ?_
    refine w_step rfl ?_
    refine w_aload rfl ?_
    refine w_getR (g_0_0 _) ?_
    refine w_callV0I (oj_1 _).choose_spec rfl (c_X4_placesHeld isT1 ok) ?_
    rintro z5 t5 ⟨rfl, hp5_0, hp5_1⟩
    refine w_retI rfl ?_
    exact ⟨rfl, (by omega), (by omega)⟩
  · refine w_sw (n := 5) (tsw_df (m := 4) rfl (by omega) (by omega)) ?_
    refine w_step rfl ?_
    refine w_push kc_m1000000001 ?_
    refine w_retI rfl ?_
    exact ⟨rfl, (by omega), (by omega)⟩
set_option maxRecDepth 100000 in
set_option maxHeartbeats 4000000 in
theorem c_X8_at {d : Nat} {t : TS} {p : Int}  (ok : OK t) (q0 : -2147483648 ≤ p) (q1 : p ≤ 2147483647) : CI (EX FU (d + 3)) 88 [.ref 0, .int (jI p)] (mk t) (fun z t' => t = t' ∧ (-2147483648 ≤ z) ∧ (z ≤ 2147483647)) := by
  refine CI_ent (d := d + 2) (Bk := bX8_at) (nL := 2) rfl rfl rfl (Nat.le_of_ble_eq_true rfl) ?_
  show Rn _ 1000000 0 [some (.ref 0), some (.int (jI p))] [] _ _
  have hn0 := (ok.f fe_1_10).1
  have hn1 := (ok.f fe_1_10).2
  refine w_step rfl ?_
  refine w_iload rfl ?_
  refine w_callS1I rfl (c_X8_isPlace ok (by omega) (by omega)) ?_
  rintro z1 t1 ⟨rfl, hp1_0⟩
  rcases hp1_0 with ⟨rfl, hp1_0⟩ | ⟨rfl, hp1_0⟩
  · skip
    refine w_ieq (by omega) (fun _ => ?_) (fun h => absurd (by omega) h)
    refine w_step rfl ?_
    refine w_push kc_m1000000001 ?_
    refine w_goto ?_
    refine w_step rfl ?_
    refine w_retI rfl ?_
    exact ⟨rfl, (by omega), (by omega)⟩
  refine w_ieq (by omega) (fun h => absurd h (by omega)) (fun _ => ?_)
  refine w_aload rfl ?_
  refine w_getR (g_0_0 _) ?_
  refine w_getR (g_1_5 _) ?_
  refine w_iload rfl ?_
  refine w_iald (i := (p).toNat) (ai_7 _) (by omega) (by omega) (ae_7 _) ok (fun z2 hz2 hl2 hh2 => ?_)
  refine w_callS1I rfl (c_X8_stoneOrNone ok (by omega) (by omega)) ?_
  rintro z3 t3 ⟨rfl, hp3_0⟩
  refine w_goto ?_
  refine w_step rfl ?_
  refine w_retI rfl ?_
  exact ⟨rfl, (by omega), (by omega)⟩
set_option maxRecDepth 100000 in
set_option maxHeartbeats 4000000 in
theorem c_X8_best {d : Nat} {t : TS} {m w : Int}  (ok : OK t) (q0 : -2147483648 ≤ m) (q1 : m ≤ 2147483647) (q2 : -2147483648 ≤ w) (q3 : w ≤ 2147483647) : CI (EX FU (d + 6)) 89 [.ref 0, .int (jI m), .int (jI w)] (mk t) (fun z t' => OK t' ∧ Fr [(35, 100), (36, 100)] t t' ∧ (-2147483648 ≤ z) ∧ (z ≤ 2147483647)) := by
  refine CI_ent (d := d + 5) (Bk := bX8_best) (nL := 3) rfl rfl rfl (Nat.le_of_ble_eq_true rfl) ?_
  show Rn _ 1000000 0 [some (.ref 0), some (.int (jI m)), some (.int (jI w))] [] _ _
  have fr : Fr [(35, 100), (36, 100)] t t := Fr.rf _ _
  have hn0 := (ok.f fe_1_10).1
  have hn1 := (ok.f fe_1_10).2
  refine w_step rfl ?_
  refine w_iload rfl ?_
  refine w_push kc_1 ?_
  refine w_push kc_6 ?_
  refine w_callS3I rfl (c_X8_within ok (by omega) (by omega) (by omega) (by omega) (by omega) (by omega)) ?_
  rintro z1 t1 ⟨rfl, hp1_0⟩
  rcases hp1_0 with ⟨rfl, hp1_0⟩ | ⟨rfl, hp1_0⟩
  · skip
    refine w_ieq (by omega) (fun _ => ?_) (fun h => absurd (by omega) h)
    refine w_step rfl ?_
    refine w_push kc_m1000000001 ?_
    refine w_retI rfl ?_
    exact ⟨ok, fr, (by omega), (by omega)⟩
  refine w_ieq (by omega) (fun h => absurd h (by omega)) (fun _ => ?_)
  refine w_iload rfl ?_
  refine w_push kc_0 ?_
  refine w_push kc_1 ?_
  refine w_callS3I rfl (c_X8_within ok (by omega) (by omega) (by omega) (by omega) (by omega) (by omega)) ?_
  rintro z2 t2 ⟨rfl, hp2_0⟩
  rcases hp2_0 with ⟨rfl, hp2_0⟩ | ⟨rfl, hp2_0⟩
  · skip
    refine w_ine (by omega) (fun h => absurd h (by omega)) (fun _ => ?_)
    refine w_goto ?_
    refine w_step rfl ?_
    refine w_push kc_m1000000001 ?_
    refine w_retI rfl ?_
    exact ⟨ok, fr, (by omega), (by omega)⟩
  refine w_ine (by omega) (fun _ => ?_) (fun h => absurd (by omega) h)
  refine w_step rfl ?_
  refine w_aload rfl ?_
  refine w_getR (g_0_2 _) ?_
  refine w_aload rfl ?_
  refine w_getR (g_0_0 _) ?_
  refine w_iload rfl ?_
  refine w_iload rfl ?_
  refine w_callV3I (oj_23 _).choose_spec rfl (c_X7_bestLaying ok (by omega) (by omega) (by omega) (by omega)) ?_
  rintro z3 t3 ⟨ok3, fq3, hp3_0, hp3_1⟩
  have fr3 := fr.then fq3 (by simp)
  refine w_retI rfl ?_
  exact ⟨ok3, fr3, (by omega), (by omega)⟩
set_option maxRecDepth 100000 in
set_option maxHeartbeats 4000000 in
theorem c_X8_bestFor {d : Nat} {t : TS} {p w : Int}  (ok : OK t) (q0 : -2147483648 ≤ p) (q1 : p ≤ 2147483647) (q2 : -2147483648 ≤ w) (q3 : w ≤ 2147483647) : CI (EX FU (d + 4)) 90 [.ref 0, .int (jI p), .int (jI w)] (mk t) (fun z t' => t = t' ∧ (-2147483648 ≤ z) ∧ (z ≤ 2147483647)) := by
  refine CI_ent (d := d + 3) (Bk := bX8_bestFor) (nL := 7) rfl rfl rfl (Nat.le_of_ble_eq_true rfl) ?_
  show Rn _ 1000000 0 [some (.ref 0), some (.int (jI p)), some (.int (jI w)), none, none, none, none] [] _ _
  have hn0 := (ok.f fe_1_10).1
  have hn1 := (ok.f fe_1_10).2
  refine w_step rfl ?_
  refine w_iload rfl ?_
  refine w_callS1I rfl (c_X8_isPlace ok (by omega) (by omega)) ?_
  rintro z1 t1 ⟨rfl, hp1_0⟩
  rcases hp1_0 with ⟨rfl, hp1_0⟩ | ⟨rfl, hp1_0⟩
  · skip
    refine w_ieq (by omega) (fun _ => ?_) (fun h => absurd (by omega) h)
    refine w_step rfl ?_
    refine w_push kc_m1000000001 ?_
    refine w_retI rfl ?_
    exact ⟨rfl, (by omega), (by omega)⟩
  refine w_ieq (by omega) (fun h => absurd h (by omega)) (fun _ => ?_)
  refine w_iload rfl ?_
  refine w_push kc_0 ?_
  refine w_push kc_1 ?_
  refine w_callS3I rfl (c_X8_within ok (by omega) (by omega) (by omega) (by omega) (by omega) (by omega)) ?_
  rintro z2 t2 ⟨rfl, hp2_0⟩
  rcases hp2_0 with ⟨rfl, hp2_0⟩ | ⟨rfl, hp2_0⟩
  · skip
    refine w_ine (by omega) (fun h => absurd h (by omega)) (fun _ => ?_)
    refine w_goto ?_
    refine w_step rfl ?_
    refine w_push kc_m1000000001 ?_
    refine w_retI rfl ?_
    exact ⟨rfl, (by omega), (by omega)⟩
  refine w_ine (by omega) (fun _ => ?_) (fun h => absurd (by omega) h)
  refine w_step rfl ?_
  refine w_push kc_m1000000005 ?_
  refine w_istore (lv' := [some (.ref 0), some (.int (jI p)), some (.int (jI w)), some (.int (jI (-1000000005))), none, none, none]) rfl ?_
  refine w_push kc_m1000000005 ?_
  refine w_istore (lv' := [some (.ref 0), some (.int (jI p)), some (.int (jI w)), some (.int (jI (-1000000005))), some (.int (jI (-1000000005))), none, none]) rfl ?_
  refine w_push kc_0 ?_
  refine w_istore (lv' := [some (.ref 0), some (.int (jI p)), some (.int (jI w)), some (.int (jI (-1000000005))), some (.int (jI (-1000000005))), some (.int (jI 0)), none]) rfl ?_
  refine w_goto ?_
  have key3 : ∀ (n3 M3 : Nat) (least : Int) (which : Int) (s : Int) (o6 : Option Int), (-2147483648 ≤ least) → (least ≤ 2147483647) → (-2147483648 ≤ which) → (which ≤ 2147483647) → (0 ≤ s) → (s ≤ 12) → 12 - s < (n3 : Int) → 60 * n3 + (1000) ≤ M3 → Rn (bX8_bestFor (EX FU (d + 3))) M3 3 [some (.ref 0), some (.int (jI p)), some (.int (jI w)), some (.int (jI least)), some (.int (jI which)), some (.int (jI s)), dv o6] [] (mk t) (PI (fun z t' => t = t' ∧ (-2147483648 ≤ z) ∧ (z ≤ 2147483647))) := by
    intro n3
    induction n3 with
    | zero => intro M3 least which s o6 i3_0 i3_1 i3_2 i3_3 i3_4 i3_5 v3 f3; exfalso; omega
    | succ n3 ih3 =>
      intro M3 least which s o6 i3_0 i3_1 i3_2 i3_3 i3_4 i3_5 v3 f3
      obtain ⟨M3, rfl⟩ : ∃ m, M3 = m + 60 := ⟨M3 - 60, by omega⟩
      refine w_step rfl ?_
      refine w_iload rfl ?_
      refine w_aload rfl ?_
      refine w_getR (g_0_0 _) ?_
      refine w_getI (g_1_10 _) fe_1_10 ok (fun z3 hz3 hl3 hh3 => ?_)
      refine w_cge (by omega) (fun h4 => ?_) (fun h4 => ?_)
      · skip
        refine w_step rfl ?_
        refine w_iload rfl ?_
        refine w_ine (by omega) (fun h5 => ?_) (fun h5 => ?_)
        · skip
          refine w_step rfl ?_
          refine w_iload rfl ?_
          refine w_goto ?_
          refine w_step rfl ?_
          refine w_retI rfl ?_
          exact ⟨rfl, (by omega), (by omega)⟩
        refine w_iload rfl ?_
        refine w_goto ?_
        refine w_step rfl ?_
        refine w_retI rfl ?_
        exact ⟨rfl, (by omega), (by omega)⟩
      refine w_aload rfl ?_
      refine w_getR (g_0_0 _) ?_
      refine w_iload rfl ?_
      refine w_iload rfl ?_
      refine w_callV2I (oj_1 _).choose_spec rfl (c_X4_leastOff isT1 ok (by omega) (by omega) (by omega) (by omega)) ?_
      rintro z6 t6 ⟨rfl, hp6_0, hp6_1⟩
      refine w_istore (lv' := [some (.ref 0), some (.int (jI p)), some (.int (jI w)), some (.int (jI least)), some (.int (jI which)), some (.int (jI s)), some (.int (jI z6))]) rfl ?_
      refine w_iload rfl ?_
      refine w_push kc_m1000000005 ?_
      refine w_ceq (by omega) (fun h7 => ?_) (fun h7 => ?_)
      · skip
        refine w_step rfl ?_
        refine w_iload rfl ?_
        refine w_istore (lv' := [some (.ref 0), some (.int (jI p)), some (.int (jI w)), some (.int (jI z6)), some (.int (jI which)), some (.int (jI s)), some (.int (jI z6))]) rfl ?_
        refine w_iload rfl ?_
        refine w_istore (lv' := [some (.ref 0), some (.int (jI p)), some (.int (jI w)), some (.int (jI z6)), some (.int (jI s)), some (.int (jI s)), some (.int (jI z6))]) rfl ?_
        refine w_goto ?_
        refine w_step rfl ?_
        refine w_iinc (lv' := [some (.ref 0), some (.int (jI p)), some (.int (jI w)), some (.int (jI z6)), some (.int (jI s)), some (.int (jI (s + 1))), some (.int (jI z6))]) kc_1 rfl rfl ?_
        refine w_goto ?_
        exact ih3 _ z6 s (s + 1) (some z6)  (by omega) (by omega) (by omega) (by omega) (by omega) (by omega) (by omega) (by omega)
      refine w_iload rfl ?_
      refine w_iload rfl ?_
      refine w_cge (by omega) (fun h8 => ?_) (fun h8 => ?_)
      · skip
        refine w_step rfl ?_
        refine w_iinc (lv' := [some (.ref 0), some (.int (jI p)), some (.int (jI w)), some (.int (jI least)), some (.int (jI which)), some (.int (jI (s + 1))), some (.int (jI z6))]) kc_1 rfl rfl ?_
        refine w_goto ?_
        exact ih3 _ least which (s + 1) (some z6)  (by omega) (by omega) (by omega) (by omega) (by omega) (by omega) (by omega) (by omega)
      refine w_goto ?_
      refine w_step rfl ?_
      refine w_iload rfl ?_
      refine w_istore (lv' := [some (.ref 0), some (.int (jI p)), some (.int (jI w)), some (.int (jI z6)), some (.int (jI which)), some (.int (jI s)), some (.int (jI z6))]) rfl ?_
      refine w_iload rfl ?_
      refine w_istore (lv' := [some (.ref 0), some (.int (jI p)), some (.int (jI w)), some (.int (jI z6)), some (.int (jI s)), some (.int (jI s)), some (.int (jI z6))]) rfl ?_
      refine w_goto ?_
      refine w_step rfl ?_
      refine w_iinc (lv' := [some (.ref 0), some (.int (jI p)), some (.int (jI w)), some (.int (jI z6)), some (.int (jI s)), some (.int (jI (s + 1))), some (.int (jI z6))]) kc_1 rfl rfl ?_
      refine w_goto ?_
      exact ih3 _ z6 s (s + 1) (some z6)  (by omega) (by omega) (by omega) (by omega) (by omega) (by omega) (by omega) (by omega)
  exact key3 13 _ (-1000000005) (-1000000005) 0 none  (by omega) (by omega) (by omega) (by omega) (by omega) (by omega) (by omega) (by omega)
set_option maxRecDepth 100000 in
set_option maxHeartbeats 4000000 in
theorem c_X8_swap {d : Nat} {t : TS}  (ok : OK t) : CI (EX FU (d + 4)) 91 [.ref 0] (mk t) (fun z t' => t = t' ∧ (-2147483648 ≤ z) ∧ (z ≤ 2147483647)) := by
  refine CI_ent (d := d + 3) (Bk := bX8_swap) (nL := 6) rfl rfl rfl (Nat.le_of_ble_eq_true rfl) ?_
  show Rn _ 1000000 0 [some (.ref 0), none, none, none, none, none] [] _ _
  have hn0 := (ok.f fe_1_10).1
  have hn1 := (ok.f fe_1_10).2
  refine w_step rfl ?_
  refine w_push kc_0 ?_
  refine w_istore (lv' := [some (.ref 0), some (.int (jI 0)), none, none, none, none]) rfl ?_
  refine w_push kc_m1000000005 ?_
  refine w_istore (lv' := [some (.ref 0), some (.int (jI 0)), some (.int (jI (-1000000005))), none, none, none]) rfl ?_
  refine w_push kc_0 ?_
  refine w_istore (lv' := [some (.ref 0), some (.int (jI 0)), some (.int (jI (-1000000005))), some (.int (jI 0)), none, none]) rfl ?_
  refine w_goto ?_
  have key1 : ∀ (n1 M1 : Nat) (most : Int) (pair : Int) (x : Int) (o4 : Option Int) (o5 : Option Int), (-2147483648 ≤ most) → (most ≤ 2147483647) → (-2147483648 ≤ pair) → (pair ≤ 2147483647) → (0 ≤ x) → (x ≤ 12) → 12 - x < (n1 : Int) → 1500 * n1 + (1000) ≤ M1 → Rn (bX8_swap (EX FU (d + 3))) M1 1 [some (.ref 0), some (.int (jI most)), some (.int (jI pair)), some (.int (jI x)), dv o4, dv o5] [] (mk t) (PI (fun z t' => t = t' ∧ (-2147483648 ≤ z) ∧ (z ≤ 2147483647))) := by
    intro n1
    induction n1 with
    | zero => intro M1 most pair x o4 o5 i1_0 i1_1 i1_2 i1_3 i1_4 i1_5 v1 f1; exfalso; omega
    | succ n1 ih1 =>
      intro M1 most pair x o4 o5 i1_0 i1_1 i1_2 i1_3 i1_4 i1_5 v1 f1
      obtain ⟨M1, rfl⟩ : ∃ m, M1 = m + 1500 := ⟨M1 - 1500, by omega⟩
      refine w_step rfl ?_
      refine w_iload rfl ?_
      refine w_aload rfl ?_
      refine w_getR (g_0_0 _) ?_
      refine w_getI (g_1_10 _) fe_1_10 ok (fun z1 hz1 hl1 hh1 => ?_)
      refine w_cge (by omega) (fun h2 => ?_) (fun h2 => ?_)
      · skip
        refine w_step rfl ?_
        refine w_iload rfl ?_
        refine w_retI rfl ?_
        exact ⟨rfl, (by omega), (by omega)⟩
      refine w_iload rfl ?_
      refine w_push kc_1 ?_
      refine w_add ?_
      refine w_istore (lv' := [some (.ref 0), some (.int (jI most)), some (.int (jI pair)), some (.int (jI x)), some (.int (jI (x + 1))), dv o5]) rfl ?_
      refine w_goto ?_
      have key2 : ∀ (n2 M2 : Nat) (most : Int) (pair : Int) (y : Int) (o5 : Option Int), (-2147483648 ≤ most) → (most ≤ 2147483647) → (-2147483648 ≤ pair) → (pair ≤ 2147483647) → (0 ≤ y) → (y ≤ 13) → 13 - y < (n2 : Int) → 60 * n2 + (1500 * n1 + 1000) ≤ M2 → Rn (bX8_swap (EX FU (d + 3))) M2 2 [some (.ref 0), some (.int (jI most)), some (.int (jI pair)), some (.int (jI x)), some (.int (jI y)), dv o5] [] (mk t) (PI (fun z t' => t = t' ∧ (-2147483648 ≤ z) ∧ (z ≤ 2147483647))) := by
        intro n2
        induction n2 with
        | zero => intro M2 most pair y o5 i2_0 i2_1 i2_2 i2_3 i2_4 i2_5 v2 f2; exfalso; omega
        | succ n2 ih2 =>
          intro M2 most pair y o5 i2_0 i2_1 i2_2 i2_3 i2_4 i2_5 v2 f2
          obtain ⟨M2, rfl⟩ : ∃ m, M2 = m + 60 := ⟨M2 - 60, by omega⟩
          refine w_step rfl ?_
          refine w_iload rfl ?_
          refine w_aload rfl ?_
          refine w_getR (g_0_0 _) ?_
          refine w_getI (g_1_10 _) fe_1_10 ok (fun z3 hz3 hl3 hh3 => ?_)
          refine w_cge (by omega) (fun h4 => ?_) (fun h4 => ?_)
          · skip
            refine w_step rfl ?_
            refine w_iinc (lv' := [some (.ref 0), some (.int (jI most)), some (.int (jI pair)), some (.int (jI (x + 1))), some (.int (jI y)), dv o5]) kc_1 rfl rfl ?_
            refine w_goto ?_
            exact ih1 _ most pair (x + 1) (some y) o5  (by omega) (by omega) (by omega) (by omega) (by omega) (by omega) (by omega) (by omega)
          refine w_aload rfl ?_
          refine w_getR (g_0_0 _) ?_
          refine w_iload rfl ?_
          refine w_iload rfl ?_
          refine w_callV2I (oj_1 _).choose_spec rfl (c_X4_gainOfChange isT1 ok (by omega) (by omega) (by omega) (by omega)) ?_
          rintro z5 t5 ⟨rfl, hp5_0, hp5_1⟩
          refine w_istore (lv' := [some (.ref 0), some (.int (jI most)), some (.int (jI pair)), some (.int (jI x)), some (.int (jI y)), some (.int (jI z5))]) rfl ?_
          refine w_iload rfl ?_
          refine w_iload rfl ?_
          refine w_cle (by omega) (fun h6 => ?_) (fun h6 => ?_)
          · skip
            refine w_step rfl ?_
            refine w_iinc (lv' := [some (.ref 0), some (.int (jI most)), some (.int (jI pair)), some (.int (jI x)), some (.int (jI (y + 1))), some (.int (jI z5))]) kc_1 rfl rfl ?_
            refine w_goto ?_
            exact ih2 _ most pair (y + 1) (some z5)  (by omega) (by omega) (by omega) (by omega) (by omega) (by omega) (by omega) (by omega)
          refine w_iload rfl ?_
          refine w_istore (lv' := [some (.ref 0), some (.int (jI z5)), some (.int (jI pair)), some (.int (jI x)), some (.int (jI y)), some (.int (jI z5))]) rfl ?_
          refine w_push kc_100 ?_
          refine w_iload rfl ?_
          refine w_mul ?_
          refine w_iload rfl ?_
          refine w_add ?_
          refine w_istore (lv' := [some (.ref 0), some (.int (jI z5)), some (.int (jI ((100 * x) + y))), some (.int (jI x)), some (.int (jI y)), some (.int (jI z5))]) rfl ?_
          refine w_goto ?_
          refine w_step rfl ?_
          refine w_iinc (lv' := [some (.ref 0), some (.int (jI z5)), some (.int (jI ((100 * x) + y))), some (.int (jI x)), some (.int (jI (y + 1))), some (.int (jI z5))]) kc_1 rfl rfl ?_
          refine w_goto ?_
          exact ih2 _ z5 ((100 * x) + y) (y + 1) (some z5)  (by omega) (by omega) (by omega) (by omega) (by omega) (by omega) (by omega) (by omega)
      exact key2 14 _ most pair (x + 1) o5  (by omega) (by omega) (by omega) (by omega) (by omega) (by omega) (by omega) (by omega)
  exact key1 13 _ 0 (-1000000005) 0 none none  (by omega) (by omega) (by omega) (by omega) (by omega) (by omega) (by omega) (by omega)
set_option maxRecDepth 100000 in
set_option maxHeartbeats 4000000 in
theorem c_X8_knocked {d : Nat} {t : TS} {p : Int}  (ok : OK t) (q0 : -2147483648 ≤ p) (q1 : p ≤ 2147483647) : CI (EX FU (d + 4)) 92 [.ref 0, .int (jI p)] (mk t) (fun z t' => t = t' ∧ (-2147483648 ≤ z) ∧ (z ≤ 2147483647)) := by
  refine CI_ent (d := d + 3) (Bk := bX8_knocked) (nL := 2) rfl rfl rfl (Nat.le_of_ble_eq_true rfl) ?_
  show Rn _ 1000000 0 [some (.ref 0), some (.int (jI p))] [] _ _
  have hn0 := (ok.f fe_1_10).1
  have hn1 := (ok.f fe_1_10).2
  refine w_step rfl ?_
  refine w_iload rfl ?_
  refine w_callS1I rfl (c_X8_isPlace ok (by omega) (by omega)) ?_
  rintro z1 t1 ⟨rfl, hp1_0⟩
  rcases hp1_0 with ⟨rfl, hp1_0⟩ | ⟨rfl, hp1_0⟩
  · skip
    refine w_ieq (by omega) (fun _ => ?_) (fun h => absurd (by omega) h)
    refine w_step rfl ?_
    refine w_push kc_m1000000001 ?_
    refine w_goto ?_
    refine w_step rfl ?_
    refine w_retI rfl ?_
    exact ⟨rfl, (by omega), (by omega)⟩
  refine w_ieq (by omega) (fun h => absurd h (by omega)) (fun _ => ?_)
  refine w_aload rfl ?_
  refine w_getR (g_0_0 _) ?_
  refine w_iload rfl ?_
  refine w_callV1I (oj_1 _).choose_spec rfl (c_X4_fallFrom isT1 ok (by omega) (by omega)) ?_
  rintro z2 t2 ⟨rfl, hp2_0, hp2_1⟩
  refine w_goto ?_
  refine w_step rfl ?_
  refine w_retI rfl ?_
  exact ⟨rfl, (by omega), (by omega)⟩
set_option maxRecDepth 100000 in
set_option maxHeartbeats 4000000 in
theorem c_X8_push {d : Nat} {t : TS} {w : Int}  (ok : OK t) (q0 : -2147483648 ≤ w) (q1 : w ≤ 2147483647) : CI (EX FU (d + 4)) 93 [.ref 0, .int (jI w)] (mk t) (fun z t' => t = t' ∧ (-2147483648 ≤ z) ∧ (z ≤ 2147483647)) := by
  refine CI_ent (d := d + 3) (Bk := bX8_push) (nL := 6) rfl rfl rfl (Nat.le_of_ble_eq_true rfl) ?_
  show Rn _ 1000000 0 [some (.ref 0), some (.int (jI w)), none, none, none, none] [] _ _
  have hn0 := (ok.f fe_1_10).1
  have hn1 := (ok.f fe_1_10).2
  refine w_step rfl ?_
  refine w_iload rfl ?_
  refine w_push kc_0 ?_
  refine w_push kc_1 ?_
  refine w_callS3I rfl (c_X8_within ok (by omega) (by omega) (by omega) (by omega) (by omega) (by omega)) ?_
  rintro z1 t1 ⟨rfl, hp1_0⟩
  rcases hp1_0 with ⟨rfl, hp1_0⟩ | ⟨rfl, hp1_0⟩
  · skip
    refine w_ine (by omega) (fun h => absurd h (by omega)) (fun _ => ?_)
    refine w_push kc_m1000000001 ?_
    refine w_retI rfl ?_
    exact ⟨rfl, (by omega), (by omega)⟩
  refine w_ine (by omega) (fun _ => ?_) (fun h => absurd (by omega) h)
  refine w_step rfl ?_
  refine w_aload rfl ?_
  refine w_getR (g_0_0 _) ?_
  refine w_push kc_0 ?_
  refine w_callV1I (oj_1 _).choose_spec rfl (c_X4_fallFrom isT1 ok (by omega) (by omega)) ?_
  rintro z2 t2 ⟨rfl, hp2_0, hp2_1⟩
  refine w_istore (lv' := [some (.ref 0), some (.int (jI w)), some (.int (jI z2)), none, none, none]) rfl ?_
  refine w_push kc_0 ?_
  refine w_istore (lv' := [some (.ref 0), some (.int (jI w)), some (.int (jI z2)), some (.int (jI 0)), none, none]) rfl ?_
  refine w_push kc_1 ?_
  refine w_istore (lv' := [some (.ref 0), some (.int (jI w)), some (.int (jI z2)), some (.int (jI 0)), some (.int (jI 1)), none]) rfl ?_
  refine w_goto ?_
  have key2 : ∀ (n2 M2 : Nat) (most : Int) (fro : Int) (p : Int) (o5 : Option Int), (0 ≤ most) → (most ≤ 12) → (0 ≤ fro) → (fro ≤ 12) → (1 ≤ p) → (p ≤ 12) → 12 - p < (n2 : Int) → 60 * n2 + (1000) ≤ M2 → Rn (bX8_push (EX FU (d + 3))) M2 2 [some (.ref 0), some (.int (jI w)), some (.int (jI most)), some (.int (jI fro)), some (.int (jI p)), dv o5] [] (mk t) (PI (fun z t' => t = t' ∧ (-2147483648 ≤ z) ∧ (z ≤ 2147483647))) := by
    intro n2
    induction n2 with
    | zero => intro M2 most fro p o5 i2_0 i2_1 i2_2 i2_3 i2_4 i2_5 v2 f2; exfalso; omega
    | succ n2 ih2 =>
      intro M2 most fro p o5 i2_0 i2_1 i2_2 i2_3 i2_4 i2_5 v2 f2
      obtain ⟨M2, rfl⟩ : ∃ m, M2 = m + 60 := ⟨M2 - 60, by omega⟩
      refine w_step rfl ?_
      refine w_iload rfl ?_
      refine w_push kc_12 ?_
      refine w_cge (by omega) (fun h3 => ?_) (fun h3 => ?_)
      · skip
        refine w_step rfl ?_
        refine w_iload rfl ?_
        refine w_ine (by omega) (fun h4 => ?_) (fun h4 => ?_)
        · skip
          refine w_step rfl ?_
          refine w_iload rfl ?_
          refine w_goto ?_
          refine w_step rfl ?_
          refine w_retI rfl ?_
          exact ⟨rfl, (by omega), (by omega)⟩
        refine w_iload rfl ?_
        refine w_goto ?_
        refine w_step rfl ?_
        refine w_retI rfl ?_
        exact ⟨rfl, (by omega), (by omega)⟩
      refine w_aload rfl ?_
      refine w_getR (g_0_0 _) ?_
      refine w_iload rfl ?_
      refine w_callV1I (oj_1 _).choose_spec rfl (c_X4_fallFrom isT1 ok (by omega) (by omega)) ?_
      rintro z5 t5 ⟨rfl, hp5_0, hp5_1⟩
      refine w_istore (lv' := [some (.ref 0), some (.int (jI w)), some (.int (jI most)), some (.int (jI fro)), some (.int (jI p)), some (.int (jI z5))]) rfl ?_
      refine w_iload rfl ?_
      refine w_iload rfl ?_
      refine w_cle (by omega) (fun h6 => ?_) (fun h6 => ?_)
      · skip
        refine w_step rfl ?_
        refine w_iinc (lv' := [some (.ref 0), some (.int (jI w)), some (.int (jI most)), some (.int (jI fro)), some (.int (jI (p + 1))), some (.int (jI z5))]) kc_1 rfl rfl ?_
        refine w_goto ?_
        exact ih2 _ most fro (p + 1) (some z5)  (by omega) (by omega) (by omega) (by omega) (by omega) (by omega) (by omega) (by omega)
      refine w_iload rfl ?_
      refine w_istore (lv' := [some (.ref 0), some (.int (jI w)), some (.int (jI z5)), some (.int (jI fro)), some (.int (jI p)), some (.int (jI z5))]) rfl ?_
      refine w_iload rfl ?_
      refine w_istore (lv' := [some (.ref 0), some (.int (jI w)), some (.int (jI z5)), some (.int (jI p)), some (.int (jI p)), some (.int (jI z5))]) rfl ?_
      refine w_goto ?_
      refine w_step rfl ?_
      refine w_iinc (lv' := [some (.ref 0), some (.int (jI w)), some (.int (jI z5)), some (.int (jI p)), some (.int (jI (p + 1))), some (.int (jI z5))]) kc_1 rfl rfl ?_
      refine w_goto ?_
      exact ih2 _ z5 p (p + 1) (some z5)  (by omega) (by omega) (by omega) (by omega) (by omega) (by omega) (by omega) (by omega)
  exact key2 13 _ z2 0 1 none  (by omega) (by omega) (by omega) (by omega) (by omega) (by omega) (by omega) (by omega)
set_option maxRecDepth 100000 in
set_option maxHeartbeats 4000000 in
theorem c_X8_behind {d : Nat} {t : TS} {n w : Int}  (ok : OK t) (q0 : -2147483648 ≤ n) (q1 : n ≤ 2147483647) (q2 : -2147483648 ≤ w) (q3 : w ≤ 2147483647) : CI (EX FU (d + 7)) 94 [.ref 0, .int (jI n), .int (jI w)] (mk t) (fun z t' => OK t' ∧ Fr [(24, 10), (24, 11), (24, 12), (24, 13), (24, 14), (25, 100), (26, 100), (27, 100), (28, 100), (29, 100), (30, 100), (31, 100), (32, 100), (34, 100), (33, 101)] t t' ∧ (-2147483648 ≤ z) ∧ (z ≤ 2147483647)) := by
  refine CI_ent (d := d + 6) (Bk := bX8_behind) (nL := 4) rfl rfl rfl (Nat.le_of_ble_eq_true rfl) ?_
  show Rn _ 1000000 0 [some (.ref 0), some (.int (jI n)), some (.int (jI w)), none] [] _ _
  have fr : Fr [(24, 10), (24, 11), (24, 12), (24, 13), (24, 14), (25, 100), (26, 100), (27, 100), (28, 100), (29, 100), (30, 100), (31, 100), (32, 100), (34, 100), (33, 101)] t t := Fr.rf _ _
  have hn0 := (ok.f fe_1_10).1
  have hn1 := (ok.f fe_1_10).2
  refine w_step rfl ?_
  refine w_iload rfl ?_
  refine w_push kc_0 ?_
  refine w_push kc_100 ?_
  refine w_callS3I rfl (c_X8_within ok (by omega) (by omega) (by omega) (by omega) (by omega) (by omega)) ?_
  rintro z1 t1 ⟨rfl, hp1_0⟩
  rcases hp1_0 with ⟨rfl, hp1_0⟩ | ⟨rfl, hp1_0⟩
  · skip
    refine w_ieq (by omega) (fun _ => ?_) (fun h => absurd (by omega) h)
    refine w_step rfl ?_
    refine w_push kc_m1000000001 ?_
    refine w_retI rfl ?_
    exact ⟨ok, fr, (by omega), (by omega)⟩
  refine w_ieq (by omega) (fun h => absurd h (by omega)) (fun _ => ?_)
  refine w_iload rfl ?_
  refine w_push kc_0 ?_
  refine w_push kc_14 ?_
  refine w_callS3I rfl (c_X8_within ok (by omega) (by omega) (by omega) (by omega) (by omega) (by omega)) ?_
  rintro z2 t2 ⟨rfl, hp2_0⟩
  rcases hp2_0 with ⟨rfl, hp2_0⟩ | ⟨rfl, hp2_0⟩
  · skip
    refine w_ine (by omega) (fun h => absurd h (by omega)) (fun _ => ?_)
    refine w_goto ?_
    refine w_step rfl ?_
    refine w_push kc_m1000000001 ?_
    refine w_retI rfl ?_
    exact ⟨ok, fr, (by omega), (by omega)⟩
  refine w_ine (by omega) (fun _ => ?_) (fun h => absurd (by omega) h)
  refine w_step rfl ?_
  refine w_aload rfl ?_
  refine w_getR (g_0_2 _) ?_
  refine w_aload rfl ?_
  refine w_getR (g_0_0 _) ?_
  refine w_iload rfl ?_
  refine w_callV2R (oj_23 _).choose_spec rfl (c_X7_behindDays_tab ok (by omega) (by omega)) ?_ ?_
  · rintro t3 ⟨ok3, fq3, hp3_0⟩; cases hp3_0
  rintro r3 t3 ⟨ok3, fq3, hp3_0⟩
  cases hp3_0
  have fr3 := fr.then fq3 (by simp)
  refine w_astore (lv' := [some (.ref 0), some (.int (jI n)), some (.int (jI w)), some (.ref 24)]) rfl ?_
  refine w_iload rfl ?_
  have hs4 : w = 0 ∨ w = 1 ∨ w = 2 ∨ (w < 0 ∨ 0 + 3 ≤ w) := (by omega)
  rcases hs4 with hs4 | hs4 | hs4 | hs4
  · refine w_sw (n := 3) (tsw_at hs4 (by decide)) ?_
    refine w_step rfl ?_
    refine w_aload rfl ?_
    refine w_callV0I (oj_24 _).choose_spec rfl (c_X4_picture isT24 ok3) ?_
    rintro z5 t5 ⟨rfl, hp5_0, hp5_1⟩
    refine w_retI rfl ?_
    exact ⟨ok3, fr3, (by omega), (by omega)⟩
  · refine w_sw (n := 4) (tsw_at hs4 (by decide)) ?_
    refine w_step rfl ?_
    refine w_aload rfl ?_
    refine w_callV0I (oj_24 _).choose_spec rfl (c_X4_matches isT24 ok3) ?_
    rintro z6 t6 ⟨rfl, hp6_0, hp6_1⟩
    refine w_retI rfl ?_
    exact ⟨ok3, fr3, (by omega), (by omega)⟩
  · refine w_sw (n := 5) (tsw_at hs4 (by decide)) ?_
    refine w_step rfl ?_
    refine w_aload rfl ?_
    refine w_callV0I (oj_24 _).choose_spec rfl (c_X4_laidStones isT24 ok3) ?_
    rintro z7 t7 ⟨rfl, hp7_0, hp7_1⟩
    refine w_retI rfl ?_
    exact ⟨ok3, fr3, (by omega), (by omega)⟩
  · refine w_sw (n := 6) (tsw_df (m := 3) rfl (by omega) (by omega)) ?_
    refine w_step rfl ?_
    refine w_aload rfl ?_
    refine w_getR (g_24_5 _) ?_
    refine w_iload rfl ?_
    refine w_push kc_3 ?_
    refine w_sub ?_
    refine w_iald (i := ((w - 3)).toNat) (ai_30 _) (by omega) (by omega) (ae_30 _) ok3 (fun z8 hz8 hl8 hh8 => ?_)
    refine w_callS1I rfl (c_X8_stoneOrNone ok3 (by omega) (by omega)) ?_
    rintro z9 t9 ⟨rfl, hp9_0⟩
    refine w_retI rfl ?_
    exact ⟨ok3, fr3, (by omega), (by omega)⟩
set_option maxRecDepth 100000 in
set_option maxHeartbeats 4000000 in
theorem c_X8_laid {d : Nat} {t : TS}  (ok : OK t) : CI (EX FU (d + 6)) 95 [.ref 0] (mk t) (fun z t' => OK t' ∧ Fr [(24, 10), (24, 11), (24, 12), (24, 13), (24, 14), (25, 100), (26, 100), (27, 100), (28, 100), (29, 100), (30, 100), (31, 100), (32, 100), (34, 100), (33, 101)] t t' ∧ (-2147483648 ≤ z) ∧ (z ≤ 2147483647)) := by
  refine CI_ent (d := d + 5) (Bk := bX8_laid) (nL := 1) rfl rfl rfl (Nat.le_of_ble_eq_true rfl) ?_
  show Rn _ 1000000 0 [some (.ref 0)] [] _ _
  have fr : Fr [(24, 10), (24, 11), (24, 12), (24, 13), (24, 14), (25, 100), (26, 100), (27, 100), (28, 100), (29, 100), (30, 100), (31, 100), (32, 100), (34, 100), (33, 101)] t t := Fr.rf _ _
  have hn0 := (ok.f fe_1_10).1
  have hn1 := (ok.f fe_1_10).2
  refine w_step rfl ?_
  refine w_aload rfl ?_
  refine w_getR (g_0_2 _) ?_
  refine w_aload rfl ?_
  refine w_getR (g_0_0 _) ?_
  refine w_callV1I (oj_23 _).choose_spec rfl (c_X7_daysTillLaid ok) ?_
  rintro z1 t1 ⟨ok1, fq1, hp1_0, hp1_1⟩
  have fr1 := fr.then fq1 (by simp)
  refine w_retI rfl ?_
  exact ⟨ok1, fr1, (by omega), (by omega)⟩
set_option maxRecDepth 100000 in
set_option maxHeartbeats 4000000 in
theorem c_X8_lost {d : Nat} {t : TS} {n w : Int}  (ok : OK t) (q0 : -2147483648 ≤ n) (q1 : n ≤ 2147483647) (q2 : -2147483648 ≤ w) (q3 : w ≤ 2147483647) : CI (EX FU (d + 7)) 96 [.ref 0, .int (jI n), .int (jI w)] (mk t) (fun z t' => OK t' ∧ Fr [(24, 10), (24, 11), (24, 12), (24, 13), (24, 14), (25, 100), (26, 100), (27, 100), (28, 100), (29, 100), (30, 100), (31, 100), (32, 100), (34, 100), (33, 101)] t t' ∧ (-2147483648 ≤ z) ∧ (z ≤ 2147483647)) := by
  refine CI_ent (d := d + 6) (Bk := bX8_lost) (nL := 7) rfl rfl rfl (Nat.le_of_ble_eq_true rfl) ?_
  show Rn _ 1000000 0 [some (.ref 0), some (.int (jI n)), some (.int (jI w)), none, none, none, none] [] _ _
  have fr : Fr [(24, 10), (24, 11), (24, 12), (24, 13), (24, 14), (25, 100), (26, 100), (27, 100), (28, 100), (29, 100), (30, 100), (31, 100), (32, 100), (34, 100), (33, 101)] t t := Fr.rf _ _
  have hn0 := (ok.f fe_1_10).1
  have hn1 := (ok.f fe_1_10).2
  refine w_step rfl ?_
  refine w_iload rfl ?_
  refine w_push kc_0 ?_
  refine w_push kc_60 ?_
  refine w_callS3I rfl (c_X8_within ok (by omega) (by omega) (by omega) (by omega) (by omega) (by omega)) ?_
  rintro z1 t1 ⟨rfl, hp1_0⟩
  rcases hp1_0 with ⟨rfl, hp1_0⟩ | ⟨rfl, hp1_0⟩
  · skip
    refine w_ieq (by omega) (fun _ => ?_) (fun h => absurd (by omega) h)
    refine w_step rfl ?_
    refine w_push kc_m1000000001 ?_
    refine w_retI rfl ?_
    exact ⟨ok, fr, (by omega), (by omega)⟩
  refine w_ieq (by omega) (fun h => absurd h (by omega)) (fun _ => ?_)
  refine w_iload rfl ?_
  refine w_push kc_0 ?_
  refine w_push kc_1 ?_
  refine w_callS3I rfl (c_X8_within ok (by omega) (by omega) (by omega) (by omega) (by omega) (by omega)) ?_
  rintro z2 t2 ⟨rfl, hp2_0⟩
  rcases hp2_0 with ⟨rfl, hp2_0⟩ | ⟨rfl, hp2_0⟩
  · skip
    refine w_ine (by omega) (fun h => absurd h (by omega)) (fun _ => ?_)
    refine w_goto ?_
    refine w_step rfl ?_
    refine w_push kc_m1000000001 ?_
    refine w_retI rfl ?_
    exact ⟨ok, fr, (by omega), (by omega)⟩
  refine w_ine (by omega) (fun _ => ?_) (fun h => absurd (by omega) h)
  refine w_step rfl ?_
  refine w_push kc_m1000000005 ?_
  refine w_istore (lv' := [some (.ref 0), some (.int (jI n)), some (.int (jI w)), some (.int (jI (-1000000005))), none, none, none]) rfl ?_
  refine w_push kc_m1000000005 ?_
  refine w_istore (lv' := [some (.ref 0), some (.int (jI n)), some (.int (jI w)), some (.int (jI (-1000000005))), some (.int (jI (-1000000005))), none, none]) rfl ?_
  refine w_push kc_0 ?_
  refine w_istore (lv' := [some (.ref 0), some (.int (jI n)), some (.int (jI w)), some (.int (jI (-1000000005))), some (.int (jI (-1000000005))), some (.int (jI 0)), none]) rfl ?_
  refine w_goto ?_
  have key3 : ∀ (n3 M3 : Nat) (least : Int) (which : Int) (s : Int) (o6 : Option Int) (t3 : TS), OK t3 → Fr [(24, 10), (24, 11), (24, 12), (24, 13), (24, 14), (25, 100), (26, 100), (27, 100), (28, 100), (29, 100), (30, 100), (31, 100), (32, 100), (34, 100), (33, 101)] t t3 → (-2147483648 ≤ least) → (least ≤ 2147483647) → (-2147483648 ≤ which) → (which ≤ 2147483647) → (0 ≤ s) → (s ≤ 12) → 12 - s < (n3 : Int) → 60 * n3 + (1000) ≤ M3 → Rn (bX8_lost (EX FU (d + 6))) M3 3 [some (.ref 0), some (.int (jI n)), some (.int (jI w)), some (.int (jI least)), some (.int (jI which)), some (.int (jI s)), dv o6] [] (mk t3) (PI (fun z t' => OK t' ∧ Fr [(24, 10), (24, 11), (24, 12), (24, 13), (24, 14), (25, 100), (26, 100), (27, 100), (28, 100), (29, 100), (30, 100), (31, 100), (32, 100), (34, 100), (33, 101)] t t' ∧ (-2147483648 ≤ z) ∧ (z ≤ 2147483647))) := by
    intro n3
    induction n3 with
    | zero => intro M3 least which s o6 t3 ok3 fr3 i3_0 i3_1 i3_2 i3_3 i3_4 i3_5 v3 f3; exfalso; omega
    | succ n3 ih3 =>
      intro M3 least which s o6 t3 ok3 fr3 i3_0 i3_1 i3_2 i3_3 i3_4 i3_5 v3 f3
      obtain ⟨M3, rfl⟩ : ∃ m, M3 = m + 60 := ⟨M3 - 60, by omega⟩
      refine w_step rfl ?_
      refine w_iload rfl ?_
      refine w_aload rfl ?_
      refine w_getR (g_0_0 _) ?_
      refine w_getI (g_1_10 _) fe_1_10 ok3 (fun z4 hz4 hl4 hh4 => ?_)
      refine w_cge (by omega) (fun h5 => ?_) (fun h5 => ?_)
      · skip
        refine w_step rfl ?_
        refine w_iload rfl ?_
        refine w_ine (by omega) (fun h6 => ?_) (fun h6 => ?_)
        · skip
          refine w_step rfl ?_
          refine w_iload rfl ?_
          refine w_goto ?_
          refine w_step rfl ?_
          refine w_retI rfl ?_
          exact ⟨ok3, fr3, (by omega), (by omega)⟩
        refine w_iload rfl ?_
        refine w_goto ?_
        refine w_step rfl ?_
        refine w_retI rfl ?_
        exact ⟨ok3, fr3, (by omega), (by omega)⟩
      refine w_aload rfl ?_
      refine w_getR (g_0_2 _) ?_
      refine w_aload rfl ?_
      refine w_getR (g_0_0 _) ?_
      refine w_iload rfl ?_
      refine w_iload rfl ?_
      refine w_callV3I (oj_23 _).choose_spec rfl (c_X7_pictureWithout ok3 (by omega) (by omega) (by omega) (by omega)) ?_
      rintro z7 t7 ⟨ok7, fq7, hp7_0, hp7_1⟩
      have fr7 := fr3.then fq7 (by simp)
      refine w_istore (lv' := [some (.ref 0), some (.int (jI n)), some (.int (jI w)), some (.int (jI least)), some (.int (jI which)), some (.int (jI s)), some (.int (jI z7))]) rfl ?_
      refine w_iload rfl ?_
      refine w_push kc_m1000000005 ?_
      refine w_ceq (by omega) (fun h8 => ?_) (fun h8 => ?_)
      · skip
        refine w_step rfl ?_
        refine w_iload rfl ?_
        refine w_istore (lv' := [some (.ref 0), some (.int (jI n)), some (.int (jI w)), some (.int (jI z7)), some (.int (jI which)), some (.int (jI s)), some (.int (jI z7))]) rfl ?_
        refine w_iload rfl ?_
        refine w_istore (lv' := [some (.ref 0), some (.int (jI n)), some (.int (jI w)), some (.int (jI z7)), some (.int (jI s)), some (.int (jI s)), some (.int (jI z7))]) rfl ?_
        refine w_goto ?_
        refine w_step rfl ?_
        refine w_iinc (lv' := [some (.ref 0), some (.int (jI n)), some (.int (jI w)), some (.int (jI z7)), some (.int (jI s)), some (.int (jI (s + 1))), some (.int (jI z7))]) kc_1 rfl rfl ?_
        refine w_goto ?_
        exact ih3 _ z7 s (s + 1) (some z7) t7 ok7 fr7 (by omega) (by omega) (by omega) (by omega) (by omega) (by omega) (by omega) (by omega)
      refine w_iload rfl ?_
      refine w_iload rfl ?_
      refine w_cge (by omega) (fun h9 => ?_) (fun h9 => ?_)
      · skip
        refine w_step rfl ?_
        refine w_iinc (lv' := [some (.ref 0), some (.int (jI n)), some (.int (jI w)), some (.int (jI least)), some (.int (jI which)), some (.int (jI (s + 1))), some (.int (jI z7))]) kc_1 rfl rfl ?_
        refine w_goto ?_
        exact ih3 _ least which (s + 1) (some z7) t7 ok7 fr7 (by omega) (by omega) (by omega) (by omega) (by omega) (by omega) (by omega) (by omega)
      refine w_goto ?_
      refine w_step rfl ?_
      refine w_iload rfl ?_
      refine w_istore (lv' := [some (.ref 0), some (.int (jI n)), some (.int (jI w)), some (.int (jI z7)), some (.int (jI which)), some (.int (jI s)), some (.int (jI z7))]) rfl ?_
      refine w_iload rfl ?_
      refine w_istore (lv' := [some (.ref 0), some (.int (jI n)), some (.int (jI w)), some (.int (jI z7)), some (.int (jI s)), some (.int (jI s)), some (.int (jI z7))]) rfl ?_
      refine w_goto ?_
      refine w_step rfl ?_
      refine w_iinc (lv' := [some (.ref 0), some (.int (jI n)), some (.int (jI w)), some (.int (jI z7)), some (.int (jI s)), some (.int (jI (s + 1))), some (.int (jI z7))]) kc_1 rfl rfl ?_
      refine w_goto ?_
      exact ih3 _ z7 s (s + 1) (some z7) t7 ok7 fr7 (by omega) (by omega) (by omega) (by omega) (by omega) (by omega) (by omega) (by omega)
  exact key3 13 _ (-1000000005) (-1000000005) 0 none t ok fr (by omega) (by omega) (by omega) (by omega) (by omega) (by omega) (by omega) (by omega)
set_option maxRecDepth 100000 in
set_option maxHeartbeats 4000000 in
theorem c_X8_seen {d : Nat} {t : TS} {k w : Int}  (ok : OK t) (q0 : -2147483648 ≤ k) (q1 : k ≤ 2147483647) (q2 : -2147483648 ≤ w) (q3 : w ≤ 2147483647) : CI (EX FU (d + 4)) 97 [.ref 0, .int (jI k), .int (jI w)] (mk t) (fun z t' => t = t' ∧ (-2147483648 ≤ z) ∧ (z ≤ 2147483647)) := by
  refine CI_ent (d := d + 3) (Bk := bX8_seen) (nL := 7) rfl rfl rfl (Nat.le_of_ble_eq_true rfl) ?_
  show Rn _ 1000000 0 [some (.ref 0), some (.int (jI k)), some (.int (jI w)), none, none, none, none] [] _ _
  have hn0 := (ok.f fe_1_10).1
  have hn1 := (ok.f fe_1_10).2
  refine w_step rfl ?_
  refine w_iload rfl ?_
  refine w_callS1I rfl (c_X8_isSheet ok (by omega) (by omega)) ?_
  rintro z1 t1 ⟨rfl, hp1_0⟩
  rcases hp1_0 with ⟨rfl, hp1_0⟩ | ⟨rfl, hp1_0⟩
  · skip
    refine w_ieq (by omega) (fun _ => ?_) (fun h => absurd (by omega) h)
    refine w_step rfl ?_
    refine w_push kc_m1000000001 ?_
    refine w_retI rfl ?_
    exact ⟨rfl, (by omega), (by omega)⟩
  refine w_ieq (by omega) (fun h => absurd h (by omega)) (fun _ => ?_)
  refine w_iload rfl ?_
  refine w_push kc_0 ?_
  refine w_push kc_1 ?_
  refine w_callS3I rfl (c_X8_within ok (by omega) (by omega) (by omega) (by omega) (by omega) (by omega)) ?_
  rintro z2 t2 ⟨rfl, hp2_0⟩
  rcases hp2_0 with ⟨rfl, hp2_0⟩ | ⟨rfl, hp2_0⟩
  · skip
    refine w_ine (by omega) (fun h => absurd h (by omega)) (fun _ => ?_)
    refine w_goto ?_
    refine w_step rfl ?_
    refine w_push kc_m1000000001 ?_
    refine w_retI rfl ?_
    exact ⟨rfl, (by omega), (by omega)⟩
  refine w_ine (by omega) (fun _ => ?_) (fun h => absurd (by omega) h)
  refine w_step rfl ?_
  refine w_aload rfl ?_
  refine w_getR (g_0_5 _) ?_
  refine w_iload rfl ?_
  refine w_sheets (i := (k).toNat) (by omega) (by omega) ?_
  refine w_callV0I (ojH (isH_s (i := (k).toNat) (by omega)) _).choose_spec rfl (c_X2_isMissing (isH_s (i := (k).toNat) (by omega)) ok) ?_
  rintro z3 t3 ⟨rfl, hp3_0⟩
  rcases hp3_0 with ⟨rfl, hp3_0⟩ | ⟨rfl, hp3_0⟩
  · skip
    refine w_ieq (by omega) (fun _ => ?_) (fun h => absurd (by omega) h)
    refine w_step rfl ?_
    refine w_aload rfl ?_
    refine w_getR (g_0_0 _) ?_
    refine w_push kc_0 ?_
    refine w_aload rfl ?_
    refine w_getR (g_0_5 _) ?_
    refine w_iload rfl ?_
    refine w_sheets (i := (k).toNat) (by omega) (by omega) ?_
    refine w_callV2I (oj_1 _).choose_spec rfl (c_X4_unlike isT1 (isH_s (i := (k).toNat) (by omega)) ok (by omega) (by omega)) ?_
    rintro z4 t4 ⟨rfl, hp4_0, hp4_1⟩
    refine w_istore (lv' := [some (.ref 0), some (.int (jI k)), some (.int (jI w)), some (.int (jI z4)), none, none, none]) rfl ?_
    refine w_push kc_0 ?_
    refine w_istore (lv' := [some (.ref 0), some (.int (jI k)), some (.int (jI w)), some (.int (jI z4)), some (.int (jI 0)), none, none]) rfl ?_
    refine w_push kc_1 ?_
    refine w_istore (lv' := [some (.ref 0), some (.int (jI k)), some (.int (jI w)), some (.int (jI z4)), some (.int (jI 0)), some (.int (jI 1)), none]) rfl ?_
    refine w_goto ?_
    have key4 : ∀ (n4 M4 : Nat) (least : Int) (which : Int) (r : Int) (o6 : Option Int), (-2147483648 ≤ least) → (least ≤ 2147483647) → (0 ≤ which) → (which ≤ 3) → (1 ≤ r) → (r ≤ 4) → 4 - r < (n4 : Int) → 60 * n4 + (1000) ≤ M4 → Rn (bX8_seen (EX FU (d + 3))) M4 4 [some (.ref 0), some (.int (jI k)), some (.int (jI w)), some (.int (jI least)), some (.int (jI which)), some (.int (jI r)), dv o6] [] (mk t) (PI (fun z t' => t = t' ∧ (-2147483648 ≤ z) ∧ (z ≤ 2147483647))) := by
      intro n4
      induction n4 with
      | zero => intro M4 least which r o6 i4_0 i4_1 i4_2 i4_3 i4_4 i4_5 v4 f4; exfalso; omega
      | succ n4 ih4 =>
        intro M4 least which r o6 i4_0 i4_1 i4_2 i4_3 i4_4 i4_5 v4 f4
        obtain ⟨M4, rfl⟩ : ∃ m, M4 = m + 60 := ⟨M4 - 60, by omega⟩
        refine w_step rfl ?_
        refine w_iload rfl ?_
        refine w_push kc_4 ?_
        refine w_cge (by omega) (fun h5 => ?_) (fun h5 => ?_)
        · skip
          refine w_step rfl ?_
          refine w_iload rfl ?_
          refine w_ine (by omega) (fun h6 => ?_) (fun h6 => ?_)
          · skip
            refine w_step rfl ?_
            refine w_iload rfl ?_
            refine w_goto ?_
            refine w_step rfl ?_
            refine w_retI rfl ?_
            exact ⟨rfl, (by omega), (by omega)⟩
          refine w_iload rfl ?_
          refine w_goto ?_
          refine w_step rfl ?_
          refine w_retI rfl ?_
          exact ⟨rfl, (by omega), (by omega)⟩
        refine w_aload rfl ?_
        refine w_getR (g_0_0 _) ?_
        refine w_iload rfl ?_
        refine w_aload rfl ?_
        refine w_getR (g_0_5 _) ?_
        refine w_iload rfl ?_
        refine w_sheets (i := (k).toNat) (by omega) (by omega) ?_
        refine w_callV2I (oj_1 _).choose_spec rfl (c_X4_unlike isT1 (isH_s (i := (k).toNat) (by omega)) ok (by omega) (by omega)) ?_
        rintro z7 t7 ⟨rfl, hp7_0, hp7_1⟩
        refine w_istore (lv' := [some (.ref 0), some (.int (jI k)), some (.int (jI w)), some (.int (jI least)), some (.int (jI which)), some (.int (jI r)), some (.int (jI z7))]) rfl ?_
        refine w_iload rfl ?_
        refine w_iload rfl ?_
        refine w_cge (by omega) (fun h8 => ?_) (fun h8 => ?_)
        · skip
          refine w_step rfl ?_
          refine w_iinc (lv' := [some (.ref 0), some (.int (jI k)), some (.int (jI w)), some (.int (jI least)), some (.int (jI which)), some (.int (jI (r + 1))), some (.int (jI z7))]) kc_1 rfl rfl ?_
          refine w_goto ?_
          exact ih4 _ least which (r + 1) (some z7)  (by omega) (by omega) (by omega) (by omega) (by omega) (by omega) (by omega) (by omega)
        refine w_iload rfl ?_
        refine w_istore (lv' := [some (.ref 0), some (.int (jI k)), some (.int (jI w)), some (.int (jI z7)), some (.int (jI which)), some (.int (jI r)), some (.int (jI z7))]) rfl ?_
        refine w_iload rfl ?_
        refine w_istore (lv' := [some (.ref 0), some (.int (jI k)), some (.int (jI w)), some (.int (jI z7)), some (.int (jI r)), some (.int (jI r)), some (.int (jI z7))]) rfl ?_
        refine w_goto ?_
        refine w_step rfl ?_
        refine w_iinc (lv' := [some (.ref 0), some (.int (jI k)), some (.int (jI w)), some (.int (jI z7)), some (.int (jI r)), some (.int (jI (r + 1))), some (.int (jI z7))]) kc_1 rfl rfl ?_
        refine w_goto ?_
        exact ih4 _ z7 r (r + 1) (some z7)  (by omega) (by omega) (by omega) (by omega) (by omega) (by omega) (by omega) (by omega)
    exact key4 5 _ z4 0 1 none  (by omega) (by omega) (by omega) (by omega) (by omega) (by omega) (by omega) (by omega)
  refine w_ieq (by omega) (fun h => absurd h (by omega)) (fun _ => ?_)
  refine w_push kc_m1000000011 ?_
  refine w_retI rfl ?_
  exact ⟨rfl, (by omega), (by omega)⟩
set_option maxRecDepth 100000 in
set_option maxHeartbeats 4000000 in
theorem c_X8_fee {d : Nat} {t : TS}  (ok : OK t) : CI (EX FU (d + 4)) 98 [.ref 0] (mk t) (fun z t' => OK t' ∧ Fr [] t t' ∧ (-2147483648 ≤ z) ∧ (z ≤ 2147483647)) := by
  refine CI_ent (d := d + 3) (Bk := bX8_fee) (nL := 3) rfl rfl rfl (Nat.le_of_ble_eq_true rfl) ?_
  show Rn _ 1000000 0 [some (.ref 0), none, none] [] _ _
  have fr : Fr [] t t := Fr.rf _ _
  have hn0 := (ok.f fe_1_10).1
  have hn1 := (ok.f fe_1_10).2
  refine w_step rfl ?_
  refine w_aload rfl ?_
  refine w_getR (g_0_0 _) ?_
  refine w_callV0I (oj_1 _).choose_spec rfl (c_X4_picture isT1 ok) ?_
  rintro z1 t1 ⟨rfl, hp1_0, hp1_1⟩
  refine w_istore (lv' := [some (.ref 0), some (.int (jI z1)), none]) rfl ?_
  refine w_aload rfl ?_
  refine w_getR (g_0_0 _) ?_
  refine w_push kc_1 ?_
  refine w_callV1R (oj_1 _).choose_spec rfl (c_X4_law isT1 ok (by omega) (by omega)) ?_ ?_
  · rintro t2 ⟨rfl, hp2_0⟩
    refine w_astoreN (lv' := [some (.ref 0), some (.int (jI z1)), some (.null)]) rfl ?_
    refine w_aloadN rfl ?_
    refine w_ifnonnullN ?_
    refine w_iload rfl ?_
    refine w_goto ?_
    refine w_step rfl ?_
    refine w_retI rfl ?_
    exact ⟨ok, fr, (by omega), (by omega)⟩
  rintro r2 t2 ⟨rfl, hp2_0⟩
  obtain ⟨j2, hj2, rfl⟩ := hp2_0 _ rfl
  refine w_astore (lv' := [some (.ref 0), some (.int (jI z1)), some (.ref (92 + 4 * j2))]) rfl ?_
  refine w_aload rfl ?_
  refine w_ifnonnullR ?_
  refine w_step rfl ?_
  refine w_aload rfl ?_
  refine w_iload rfl ?_
  refine w_aload rfl ?_
  refine w_getR (g_0_0 _) ?_
  refine w_callV0I (oj_1 _).choose_spec rfl (c_X4_matches isT1 ok) ?_
  rintro z3 t3 ⟨rfl, hp3_0, hp3_1⟩
  refine w_push kc_0 ?_
  refine w_callV3I (ojX (by have hl := fr.len; omega)).choose_spec rfl (c_X6_gives (by have hl := fr.len; omega) ok (by omega) (by omega) (by omega) (by omega) (by omega) (by omega)) ?_
  rintro z4 t4 ⟨ok4, fq4, hp4_0, hp4_1⟩
  have fr4 := fr.then fq4 (by simp)
  refine w_goto ?_
  refine w_step rfl ?_
  refine w_retI rfl ?_
  exact ⟨ok4, fr4, (by omega), (by omega)⟩
set_option maxRecDepth 100000 in
set_option maxHeartbeats 4000000 in
theorem c_X8_fine {d : Nat} {t : TS} {s : Int}  (ok : OK t) (q0 : -2147483648 ≤ s) (q1 : s ≤ 2147483647) : CI (EX FU (d + 4)) 99 [.ref 0, .int (jI s)] (mk t) (fun z t' => OK t' ∧ Fr [] t t' ∧ (-2147483648 ≤ z) ∧ (z ≤ 2147483647)) := by
  refine CI_ent (d := d + 3) (Bk := bX8_fine) (nL := 3) rfl rfl rfl (Nat.le_of_ble_eq_true rfl) ?_
  show Rn _ 1000000 0 [some (.ref 0), some (.int (jI s)), none] [] _ _
  have fr : Fr [] t t := Fr.rf _ _
  have hn0 := (ok.f fe_1_10).1
  have hn1 := (ok.f fe_1_10).2
  refine w_step rfl ?_
  refine w_aload rfl ?_
  refine w_iload rfl ?_
  refine w_callV1I (oj_0 _).choose_spec rfl (c_X8_isStone ok (by omega) (by omega)) ?_
  rintro z1 t1 ⟨rfl, hp1_0⟩
  rcases hp1_0 with ⟨rfl, hp1_0⟩ | ⟨rfl, hp1_0⟩
  · skip
    refine w_ine (by omega) (fun h => absurd h (by omega)) (fun _ => ?_)
    refine w_push kc_m1000000001 ?_
    refine w_retI rfl ?_
    exact ⟨ok, fr, (by omega), (by omega)⟩
  refine w_ine (by omega) (fun _ => ?_) (fun h => absurd (by omega) h)
  refine w_step rfl ?_
  refine w_aload rfl ?_
  refine w_getR (g_0_0 _) ?_
  refine w_push kc_2 ?_
  refine w_callV1R (oj_1 _).choose_spec rfl (c_X4_law isT1 ok (by omega) (by omega)) ?_ ?_
  · rintro t2 ⟨rfl, hp2_0⟩
    refine w_astoreN (lv' := [some (.ref 0), some (.int (jI s)), some (.null)]) rfl ?_
    refine w_aloadN rfl ?_
    refine w_ifnonnullN ?_
    refine w_aload rfl ?_
    refine w_getR (g_0_0 _) ?_
    refine w_getR (g_1_1 _) ?_
    refine w_iload rfl ?_
    refine w_iald (i := (s).toNat) (ai_3 _) (by omega) (by omega) (ae_3 _) ok (fun z3 hz3 hl3 hh3 => ?_)
    refine w_goto ?_
    refine w_step rfl ?_
    refine w_retI rfl ?_
    exact ⟨ok, fr, (by omega), (by omega)⟩
  rintro r2 t2 ⟨rfl, hp2_0⟩
  obtain ⟨j2, hj2, rfl⟩ := hp2_0 _ rfl
  refine w_astore (lv' := [some (.ref 0), some (.int (jI s)), some (.ref (92 + 4 * j2))]) rfl ?_
  refine w_aload rfl ?_
  refine w_ifnonnullR ?_
  refine w_step rfl ?_
  refine w_aload rfl ?_
  refine w_aload rfl ?_
  refine w_getR (g_0_0 _) ?_
  refine w_getR (g_1_1 _) ?_
  refine w_iload rfl ?_
  refine w_iald (i := (s).toNat) (ai_3 _) (by omega) (by omega) (ae_3 _) ok (fun z4 hz4 hl4 hh4 => ?_)
  refine w_aload rfl ?_
  refine w_getR (g_0_0 _) ?_
  refine w_getR (g_1_2 _) ?_
  refine w_iload rfl ?_
  refine w_iald (i := (s).toNat) (ai_4 _) (by omega) (by omega) (ae_4 _) ok (fun z5 hz5 hl5 hh5 => ?_)
  refine w_aload rfl ?_
  refine w_getR (g_0_0 _) ?_
  refine w_getR (g_1_4 _) ?_
  refine w_iload rfl ?_
  refine w_iald (i := (s).toNat) (ai_6 _) (by omega) (by omega) (ae_6 _) ok (fun z6 hz6 hl6 hh6 => ?_)
  refine w_callV3I (ojX (by have hl := fr.len; omega)).choose_spec rfl (c_X6_gives (by have hl := fr.len; omega) ok (by omega) (by omega) (by omega) (by omega) (by omega) (by omega)) ?_
  rintro z7 t7 ⟨ok7, fq7, hp7_0, hp7_1⟩
  have fr7 := fr.then fq7 (by simp)
  refine w_goto ?_
  refine w_step rfl ?_
  refine w_retI rfl ?_
  exact ⟨ok7, fr7, (by omega), (by omega)⟩
set_option maxRecDepth 100000 in
set_option maxHeartbeats 4000000 in
theorem c_X5_add {d : Nat} {t : TS} {x : Int}  (ok : OK t) (q0 : -2147483648 ≤ x) (q1 : x ≤ 2147483647) (q2 : tI t 37 1 + 4 ≤ 96) : CV (EX FU (d + 1)) 61 [.ref 37, .int (jI x)] (mk t) (fun t' => OK t' ∧ Fr [(37, 1), (38, 100)] t t' ∧ (tI t' 37 1 = tI t 37 1 + 4)) := by
  refine CV_ent (d := d + 0) (Bk := bX5_add) (nL := 3) rfl rfl rfl (Nat.le_of_ble_eq_true rfl) ?_
  show Rn _ 1000000 0 [some (.ref 37), some (.int (jI x)), none] [] _ _
  have fr : Fr [(37, 1), (38, 100)] t t := Fr.rf _ _
  refine w_step rfl ?_
  refine w_push kc_24 ?_
  refine w_istore (lv' := [some (.ref 37), some (.int (jI x)), some (.int (jI 24))]) rfl ?_
  refine w_goto ?_
  have key1 : ∀ (n1 M1 : Nat) (i : Int) (t1 : TS), OK t1 → Fr [(37, 1), (38, 100)] t t1 → (-8 ≤ i) → (i ≤ 24) → (i % 8 = 0) → (tI t1 37 1 = tI t 37 1 + (24 - i) / 8) → i + 8 < (n1 : Int) → 60 * n1 + (1000) ≤ M1 → Rn (bX5_add (EX FU (d + 0))) M1 1 [some (.ref 37), some (.int (jI x)), some (.int (jI i))] [] (mk t1) (PV (fun t' => OK t' ∧ Fr [(37, 1), (38, 100)] t t' ∧ (tI t' 37 1 = tI t 37 1 + 4))) := by
    intro n1
    induction n1 with
    | zero => intro M1 i t1 ok1 fr1 i1_0 i1_1 i1_2 i1_3 v1 f1; exfalso; omega
    | succ n1 ih1 =>
      intro M1 i t1 ok1 fr1 i1_0 i1_1 i1_2 i1_3 v1 f1
      obtain ⟨M1, rfl⟩ : ∃ m, M1 = m + 60 := ⟨M1 - 60, by omega⟩
      refine w_step rfl ?_
      refine w_iload rfl ?_
      refine w_ilt (by omega) (fun h2 => ?_) (fun h2 => ?_)
      · skip
        refine w_step rfl ?_
        refine w_retV ?_
        exact ⟨ok1, fr1, (by omega)⟩
      refine w_aload rfl ?_
      refine w_getI (g_37_1 _) fe_37_1 ok1 (fun z3 hz3 hl3 hh3 => ?_)
      refine w_push kc_96 ?_
      refine w_cge (by omega) (fun h4 => ?_) (fun h4 => ?_)
      · skip
        refine w_step rfl ?_
        refine w_retV ?_
        exact ⟨ok1, fr1, (by omega)⟩
      refine w_aload rfl ?_
      refine w_getR (g_37_0 _) ?_
      refine w_aload rfl ?_
      refine w_getI (g_37_1 _) fe_37_1 ok1 (fun z5 hz5 hl5 hh5 => ?_)
      refine w_iload rfl ?_
      refine w_iload rfl ?_
      refine w_bin (fun z6 hz6 hl6 hh6 => ?_)
      refine w_push kc_255 ?_
      refine w_bin (fun z7 hz7 hl7 hh7 => ?_)
      have hu7 := ah_and255 hz7
      refine w_iast (i := (z5).toNat) (ai_38 _) rfl (by omega) (by omega) (ae_38 _) ok1 (by omega) (fun t8 ht8 ok8 => ?_)
      have fr8 := fr1.uA ht8 (by simp)
      have ew : tI t8 37 1 = tI t 37 1 + (24 - i) / 8 := by rw [ht8, tI_uA]; exact i1_3
      refine w_aload rfl ?_
      refine w_dupR ?_
      refine w_getI (g_37_1 _) fe_37_1 ok8 (fun z9 hz9 hl9 hh9 => ?_)
      refine w_push kc_1 ?_
      refine w_add ?_
      refine w_putI (p_37_1 _) fe_37_1 ok8 (by omega) (fun t10 ht10 ok10 => ?_)
      have fr10 := fr8.uI ht10 (by simp)
      have ex : tI t10 37 1 = tI t 37 1 + (24 - i) / 8 + 1 := by rw [ht10, tI_uI, if_pos ⟨rfl, rfl⟩]; omega
      refine w_iinc (lv' := [some (.ref 37), some (.int (jI x)), some (.int (jI (i + (-8))))]) kc_m8 rfl rfl ?_
      refine w_goto ?_
      exact ih1 _ (i + (-8)) t10 ok10 fr10 (by omega) (by omega) (by omega) (by omega) (by omega) (by omega)
  exact key1 40 _ 24 t ok fr (by omega) (by omega) (by omega) (by omega) (by omega) (by omega)
set_option maxRecDepth 100000 in
set_option maxHeartbeats 4000000 in
theorem c_X8_feed {d : Nat} {t : TS} {x y w : Int}  (ok : OK t) (q0 : -2147483648 ≤ x) (q1 : x ≤ 2147483647) (q2 : -2147483648 ≤ y) (q3 : y ≤ 2147483647) (q4 : -2147483648 ≤ w) (q5 : w ≤ 2147483647) : CI (EX FU (d + 2)) 100 [.ref 0, .int (jI x), .int (jI y), .int (jI w)] (mk t) (fun z t' => OK t' ∧ Fr [(37, 1), (38, 100)] t t' ∧ (((96 < tI t 37 1 + 12) ∧ z = (-1000000003) ∧ t' = t) ∨ ((tI t 37 1 + 12 ≤ 96) ∧ z = tI t 37 1 + 12 ∧ (tI t' 37 1 = tI t 37 1 + 12)))) := by
  refine CI_ent (d := d + 1) (Bk := bX8_feed) (nL := 4) rfl rfl rfl (Nat.le_of_ble_eq_true rfl) ?_
  show Rn _ 1000000 0 [some (.ref 0), some (.int (jI x)), some (.int (jI y)), some (.int (jI w))] [] _ _
  have fr : Fr [(37, 1), (38, 100)] t t := Fr.rf _ _
  have hn0 := (ok.f fe_1_10).1
  have hn1 := (ok.f fe_1_10).2
  refine w_step rfl ?_
  refine w_aload rfl ?_
  refine w_getR (g_0_3 _) ?_
  refine w_getI (g_37_1 _) fe_37_1 ok (fun z1 hz1 hl1 hh1 => ?_)
  refine w_push kc_12 ?_
  refine w_add ?_
  refine w_push kc_96 ?_
  refine w_cle (by omega) (fun h2 => ?_) (fun h2 => ?_)
  · skip
    refine w_step rfl ?_
    refine w_aload rfl ?_
    refine w_getR (g_0_3 _) ?_
    refine w_iload rfl ?_
    refine w_callV1V (oj_37 _).choose_spec rfl (c_X5_add ok (by omega) (by omega) (by omega)) ?_
    rintro t3 ⟨ok3, fq3, hp3_0⟩
    have fr3 := fr.then fq3 (by simp)
    refine w_aload rfl ?_
    refine w_getR (g_0_3 _) ?_
    refine w_iload rfl ?_
    refine w_callV1V (oj_37 _).choose_spec rfl (c_X5_add ok3 (by omega) (by omega) (by omega)) ?_
    rintro t4 ⟨ok4, fq4, hp4_0⟩
    have fr4 := fr3.then fq4 (by simp)
    refine w_aload rfl ?_
    refine w_getR (g_0_3 _) ?_
    refine w_iload rfl ?_
    refine w_callV1V (oj_37 _).choose_spec rfl (c_X5_add ok4 (by omega) (by omega) (by omega)) ?_
    rintro t5 ⟨ok5, fq5, hp5_0⟩
    have fr5 := fr4.then fq5 (by simp)
    refine w_aload rfl ?_
    refine w_getR (g_0_3 _) ?_
    refine w_getI (g_37_1 _) fe_37_1 ok5 (fun z6 hz6 hl6 hh6 => ?_)
    refine w_retI rfl ?_
    exact ⟨ok5, fr5, (by first | (exact Or.inl ⟨by omega, by first | omega | (subst_vars; rfl), rfl⟩) | (exact Or.inr (⟨by omega, by first | omega | (subst_vars; rfl), by omega⟩)))⟩
  refine w_push kc_m1000000003 ?_
  refine w_retI rfl ?_
  exact ⟨ok, fr, (by first | (exact Or.inl ⟨by omega, by first | omega | (subst_vars; rfl), rfl⟩) | (exact Or.inr (⟨by omega, by first | omega | (subst_vars; rfl), by omega⟩)))⟩
set_option maxRecDepth 100000 in
set_option maxHeartbeats 4000000 in
theorem c_X8_trim {d : Nat} {t : TS} {n : Int}  (ok : OK t) (q0 : -2147483648 ≤ n) (q1 : n ≤ 2147483647) : CI (EX FU (d + 2)) 101 [.ref 0, .int (jI n)] (mk t) (fun z t' => OK t' ∧ Fr [(37, 1)] t t' ∧ (((¬ (0 ≤ n ∧ n ≤ tI t 37 1)) ∧ z = (-1000000001) ∧ t' = t) ∨ ((0 ≤ n ∧ n ≤ tI t 37 1) ∧ z = n ∧ (t' = uI t 37 1 n)))) := by
  refine CI_ent (d := d + 1) (Bk := bX8_trim) (nL := 2) rfl rfl rfl (Nat.le_of_ble_eq_true rfl) ?_
  show Rn _ 1000000 0 [some (.ref 0), some (.int (jI n))] [] _ _
  have fr : Fr [(37, 1)] t t := Fr.rf _ _
  have hn0 := (ok.f fe_1_10).1
  have hn1 := (ok.f fe_1_10).2
  refine w_step rfl ?_
  refine w_iload rfl ?_
  refine w_push kc_0 ?_
  refine w_aload rfl ?_
  refine w_getR (g_0_3 _) ?_
  refine w_getI (g_37_1 _) fe_37_1 ok (fun z1 hz1 hl1 hh1 => ?_)
  refine w_callS3I rfl (c_X8_within ok (by omega) (by omega) (by omega) (by omega) (by omega) (by omega)) ?_
  rintro z2 t2 ⟨rfl, hp2_0⟩
  rcases hp2_0 with ⟨rfl, hp2_0⟩ | ⟨rfl, hp2_0⟩
  · skip
    refine w_ine (by omega) (fun h => absurd h (by omega)) (fun _ => ?_)
    refine w_push kc_m1000000001 ?_
    refine w_retI rfl ?_
    exact ⟨ok, fr, (by first | (exact Or.inl ⟨by omega, by first | omega | (subst_vars; rfl), rfl⟩) | (exact Or.inr (⟨by omega, by first | omega | (subst_vars; rfl), by assumption⟩)))⟩
  refine w_ine (by omega) (fun _ => ?_) (fun h => absurd (by omega) h)
  refine w_step rfl ?_
  refine w_aload rfl ?_
  refine w_getR (g_0_3 _) ?_
  refine w_iload rfl ?_
  refine w_putI (p_37_1 _) fe_37_1 ok (by omega) (fun t3 ht3 ok3 => ?_)
  have fr3 := fr.uI ht3 (by simp)
  refine w_iload rfl ?_
  refine w_retI rfl ?_
  exact ⟨ok3, fr3, (by first | (exact Or.inl ⟨by omega, by first | omega | (subst_vars; rfl), rfl⟩) | (exact Or.inr (⟨by omega, by first | omega | (subst_vars; rfl), by assumption⟩)))⟩
set_option maxRecDepth 100000 in
set_option maxHeartbeats 4000000 in
theorem c_X8_textTold {d : Nat} {t : TS} {x w : Int}  (ok : OK t) (q0 : -2147483648 ≤ x) (q1 : x ≤ 2147483647) (q2 : -2147483648 ≤ w) (q3 : w ≤ 2147483647) : CI (EX FU (d + 3)) 103 [.ref 0, .int (jI x), .int (jI w)] (mk t) (fun z t' => t = t' ∧ (-2147483648 ≤ z) ∧ (z ≤ 2147483647)) := by
  refine CI_ent (d := d + 2) (Bk := bX8_textTold) (nL := 4) rfl rfl rfl (Nat.le_of_ble_eq_true rfl) ?_
  show Rn _ 1000000 0 [some (.ref 0), some (.int (jI x)), some (.int (jI w)), none] [] _ _
  have hn0 := (ok.f fe_1_10).1
  have hn1 := (ok.f fe_1_10).2
  refine w_step rfl ?_
  refine w_aload rfl ?_
  refine w_getR (g_0_0 _) ?_
  refine w_iload rfl ?_
  refine w_callV1R (oj_1 _).choose_spec rfl (c_X4_textAt isT1 ok (by omega) (by omega)) ?_ ?_
  · rintro t1 ⟨rfl, hp1_0⟩
    refine w_astoreN (lv' := [some (.ref 0), some (.int (jI x)), some (.int (jI w)), some (.null)]) rfl ?_
    refine w_aloadN rfl ?_
    refine w_ifnullN ?_
    refine w_step rfl ?_
    refine w_push kc_m1000000001 ?_
    refine w_retI rfl ?_
    exact ⟨rfl, (by omega), (by omega)⟩
  rintro r1 t1 ⟨rfl, hp1_0⟩
  obtain ⟨j1, hj1, rfl⟩ := hp1_0 _ rfl
  refine w_astore (lv' := [some (.ref 0), some (.int (jI x)), some (.int (jI w)), some (.ref (92 + 4 * j1))]) rfl ?_
  refine w_aload rfl ?_
  refine w_ifnullR ?_
  refine w_iload rfl ?_
  refine w_push kc_0 ?_
  refine w_push kc_1 ?_
  refine w_callS3I rfl (c_X8_within ok (by omega) (by omega) (by omega) (by omega) (by omega) (by omega)) ?_
  rintro z2 t2 ⟨rfl, hp2_0⟩
  rcases hp2_0 with ⟨rfl, hp2_0⟩ | ⟨rfl, hp2_0⟩
  · skip
    refine w_ine (by omega) (fun h => absurd h (by omega)) (fun _ => ?_)
    refine w_goto ?_
    refine w_step rfl ?_
    refine w_push kc_m1000000001 ?_
    refine w_retI rfl ?_
    exact ⟨rfl, (by omega), (by omega)⟩
  refine w_ine (by omega) (fun _ => ?_) (fun h => absurd (by omega) h)
  refine w_step rfl ?_
  refine w_iload rfl ?_
  refine w_ine (by omega) (fun h3 => ?_) (fun h3 => ?_)
  · skip
    refine w_step rfl ?_
    refine w_aload rfl ?_
    refine w_getX1 hj1 ok (fun z4 hz4 hl4 hh4 => ?_)
    refine w_goto ?_
    refine w_step rfl ?_
    refine w_retI rfl ?_
    exact ⟨rfl, (by omega), (by omega)⟩
  refine w_aload rfl ?_
  refine w_getX0 hj1 ok (fun z5 hz5 hl5 hh5 => ?_)
  refine w_goto ?_
  refine w_step rfl ?_
  refine w_retI rfl ?_
  exact ⟨rfl, (by omega), (by omega)⟩
set_option maxRecDepth 100000 in
set_option maxHeartbeats 4000000 in
theorem c_X8_why {d : Nat} {t : TS} {k : Int}  (ok : OK t) (q0 : -2147483648 ≤ k) (q1 : k ≤ 2147483647) : CI (EX FU (d + 2)) 104 [.ref 0, .int (jI k)] (mk t) (fun z t' => t = t' ∧ (-2147483648 ≤ z) ∧ (z ≤ 2147483647)) := by
  refine CI_ent (d := d + 1) (Bk := bX8_why) (nL := 2) rfl rfl rfl (Nat.le_of_ble_eq_true rfl) ?_
  show Rn _ 1000000 0 [some (.ref 0), some (.int (jI k))] [] _ _
  have hn0 := (ok.f fe_1_10).1
  have hn1 := (ok.f fe_1_10).2
  refine w_step rfl ?_
  refine w_iload rfl ?_
  refine w_push kc_0 ?_
  refine w_push kc_2 ?_
  refine w_callS3I rfl (c_X8_within ok (by omega) (by omega) (by omega) (by omega) (by omega) (by omega)) ?_
  rintro z1 t1 ⟨rfl, hp1_0⟩
  rcases hp1_0 with ⟨rfl, hp1_0⟩ | ⟨rfl, hp1_0⟩
  · skip
    refine w_ine (by omega) (fun h => absurd h (by omega)) (fun _ => ?_)
    refine w_push kc_m1000000001 ?_
    refine w_retI rfl ?_
    exact ⟨rfl, (by omega), (by omega)⟩
  refine w_ine (by omega) (fun _ => ?_) (fun h => absurd (by omega) h)
  refine w_step rfl ?_
  refine w_aload rfl ?_
  refine w_getR (g_0_0 _) ?_
  refine w_getR (g_1_9 _) ?_
  refine w_iload rfl ?_
  refine w_iald (i := (k).toNat) (ai_11 _) (by omega) (by omega) (ae_11 _) ok (fun z2 hz2 hl2 hh2 => ?_)
  refine w_push kc_m1 ?_
  refine w_cne (by omega) (fun h3 => ?_) (fun h3 => ?_)
  · skip
    refine w_step rfl ?_
    refine w_aload rfl ?_
    refine w_getR (g_0_0 _) ?_
    refine w_getR (g_1_9 _) ?_
    refine w_iload rfl ?_
    refine w_iald (i := (k).toNat) (ai_11 _) (by omega) (by omega) (ae_11 _) ok (fun z4 hz4 hl4 hh4 => ?_)
    refine w_goto ?_
    refine w_step rfl ?_
    refine w_retI rfl ?_
    exact ⟨rfl, (by omega), (by omega)⟩
  refine w_push kc_m1000000005 ?_
  refine w_goto ?_
  refine w_step rfl ?_
  refine w_retI rfl ?_
  exact ⟨rfl, (by omega), (by omega)⟩
