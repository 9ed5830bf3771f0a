set_option maxRecDepth 100000 in
set_option maxHeartbeats 4000000 in
theorem c_X8_as {d : Nat} {t : TS} {s k : Int}  (ok : OK t) (q0 : -2147483648 ≤ s) (q1 : s ≤ 2147483647) (q2 : -2147483648 ≤ k) (q3 : k ≤ 2147483647) : CI (EX FU (d + 3)) 78 [.ref 0, .int (jI s), .int (jI k)] (mk t) (fun z t' => t = t' ∧ (((¬ (0 ≤ s ∧ s ≤ tI t 1 10 - 1 ∧ 0 ≤ k ∧ k ≤ 5)) ∧ z = (-1000000001)) ∨ ((0 ≤ s ∧ s ≤ tI t 1 10 - 1 ∧ 0 ≤ k ∧ k ≤ 5) ∧ (tA t 2 s.toNat = k ∨ k = 0 ∨ (k = 1 ∧ tA t 2 s.toNat = 3) ∨ (k = 2 ∧ tA t 2 s.toNat = 4)) ∧ z = tA t 3 s.toNat) ∨ ((0 ≤ s ∧ s ≤ tI t 1 10 - 1 ∧ 0 ≤ k ∧ k ≤ 5) ∧ (¬ (tA t 2 s.toNat = k ∨ k = 0 ∨ (k = 1 ∧ tA t 2 s.toNat = 3) ∨ (k = 2 ∧ tA t 2 s.toNat = 4))) ∧ z = (-1000000012)))) := by
  refine CI_ent (d := d + 2) (Bk := bX8_as) (nL := 3) rfl rfl rfl (Nat.le_of_ble_eq_true rfl) ?_
  show Rn _ 1000000 0 [some (.ref 0), some (.int (jI s)), some (.int (jI k))] [] _ _
  have hn0 := (ok.f fe_1_10).1
  have hn1 := (ok.f fe_1_10).2
  refine w_step rfl ?_
  refine w_aload rfl ?_
  refine w_iload rfl ?_
  refine w_callV1I (oj_0 _).choose_spec rfl (c_X8_isStone ok (by omega) (by omega)) ?_
  rintro z1 t1 ⟨rfl, hp1_0⟩
  rcases hp1_0 with ⟨rfl, hp1_0⟩ | ⟨rfl, hp1_0⟩
  · skip
    refine w_ieq (by omega) (fun _ => ?_) (fun h => absurd (by omega) h)
    refine w_step rfl ?_
    refine w_push kc_m1000000001 ?_
    refine w_retI rfl ?_
    exact ⟨rfl, (by first | (exact Or.inl ⟨by omega, by first | omega | (subst_vars; rfl)⟩) | (exact Or.inr (Or.inl ⟨by omega, by omega, by first | omega | (subst_vars; rfl)⟩)) | (exact Or.inr (Or.inr (⟨by omega, by omega, by first | omega | (subst_vars; rfl)⟩))))⟩
  refine w_ieq (by omega) (fun h => absurd h (by omega)) (fun _ => ?_)
  refine w_iload rfl ?_
  refine w_push kc_0 ?_
  refine w_push kc_5 ?_
  refine w_callS3I rfl (c_X8_within ok (by omega) (by omega) (by omega) (by omega) (by omega) (by omega)) ?_
  rintro z2 t2 ⟨rfl, hp2_0⟩
  rcases hp2_0 with ⟨rfl, hp2_0⟩ | ⟨rfl, hp2_0⟩
  · skip
    refine w_ine (by omega) (fun h => absurd h (by omega)) (fun _ => ?_)
    refine w_goto ?_
    refine w_step rfl ?_
    refine w_push kc_m1000000001 ?_
    refine w_retI rfl ?_
    exact ⟨rfl, (by first | (exact Or.inl ⟨by omega, by first | omega | (subst_vars; rfl)⟩) | (exact Or.inr (Or.inl ⟨by omega, by omega, by first | omega | (subst_vars; rfl)⟩)) | (exact Or.inr (Or.inr (⟨by omega, by omega, by first | omega | (subst_vars; rfl)⟩))))⟩
  refine w_ine (by omega) (fun _ => ?_) (fun h => absurd (by omega) h)
  refine w_step rfl ?_
  refine w_aload rfl ?_
  refine w_getR (g_0_0 _) ?_
  refine w_getR (g_1_0 _) ?_
  refine w_iload rfl ?_
  refine w_iald (i := (s).toNat) (ai_2 _) (by omega) (by omega) (ae_2 _) ok (fun z3 hz3 hl3 hh3 => ?_)
  refine w_iload rfl ?_
  refine w_callS2I rfl (c_X0_isOf ok (by omega) (by omega) (by omega) (by omega)) ?_
  rintro z4 t4 ⟨rfl, hp4_0⟩
  rcases hp4_0 with ⟨rfl, hp4_0⟩ | ⟨rfl, hp4_0⟩
  · skip
    refine w_ieq (by omega) (fun _ => ?_) (fun h => absurd (by omega) h)
    refine w_step rfl ?_
    refine w_push kc_m1000000012 ?_
    refine w_goto ?_
    refine w_step rfl ?_
    refine w_retI rfl ?_
    exact ⟨rfl, (by first | (exact Or.inl ⟨by omega, by first | omega | (subst_vars; rfl)⟩) | (exact Or.inr (Or.inl ⟨by omega, by omega, by first | omega | (subst_vars; rfl)⟩)) | (exact Or.inr (Or.inr (⟨by omega, by omega, by first | omega | (subst_vars; rfl)⟩))))⟩
  refine w_ieq (by omega) (fun h => absurd h (by omega)) (fun _ => ?_)
  refine w_aload rfl ?_
  refine w_getR (g_0_0 _) ?_
  refine w_getR (g_1_1 _) ?_
  refine w_iload rfl ?_
  refine w_iald (i := (s).toNat) (ai_3 _) (by omega) (by omega) (ae_3 _) ok (fun z5 hz5 hl5 hh5 => ?_)
  refine w_goto ?_
  refine w_step rfl ?_
  refine w_retI rfl ?_
  exact ⟨rfl, (by first | (exact Or.inl ⟨by omega, by first | omega | (subst_vars; rfl)⟩) | (exact Or.inr (Or.inl ⟨by omega, by omega, by first | omega | (subst_vars; rfl)⟩)) | (exact Or.inr (Or.inr (⟨by omega, by omega, by first | omega | (subst_vars; rfl)⟩))))⟩
set_option maxRecDepth 100000 in
set_option maxHeartbeats 4000000 in
theorem c_X8_want {d : Nat} {t : TS} {c v : Int}  (ok : OK t) (q0 : -2147483648 ≤ c) (q1 : c ≤ 2147483647) (q2 : -2147483648 ≤ v) (q3 : v ≤ 2147483647) : CI (EX FU (d + 2)) 82 [.ref 0, .int (jI c), .int (jI v)] (mk t) (fun z t' => OK t' ∧ Fr [(8, 100)] t t' ∧ (((¬ (0 ≤ c ∧ c ≤ 23 ∧ 0 ≤ v ∧ v ≤ 99)) ∧ z = (-1000000001) ∧ t' = t) ∨ ((0 ≤ c ∧ c ≤ 23 ∧ 0 ≤ v ∧ v ≤ 99) ∧ z = tA t 8 c.toNat ∧ (t' = uA t 8 c.toNat v)))) := by
  refine CI_ent (d := d + 1) (Bk := bX8_want) (nL := 4) rfl rfl rfl (Nat.le_of_ble_eq_true rfl) ?_
  show Rn _ 1000000 0 [some (.ref 0), some (.int (jI c)), some (.int (jI v)), none] [] _ _
  have fr : Fr [(8, 100)] t t := Fr.rf _ _
  have hn0 := (ok.f fe_1_10).1
  have hn1 := (ok.f fe_1_10).2
  refine w_step rfl ?_
  refine w_iload rfl ?_
  refine w_push kc_0 ?_
  refine w_push kc_23 ?_
  refine w_callS3I rfl (c_X8_within ok (by omega) (by omega) (by omega) (by omega) (by omega) (by omega)) ?_
  rintro z1 t1 ⟨rfl, hp1_0⟩
  rcases hp1_0 with ⟨rfl, hp1_0⟩ | ⟨rfl, hp1_0⟩
  · skip
    refine w_ieq (by omega) (fun _ => ?_) (fun h => absurd (by omega) h)
    refine w_step rfl ?_
    refine w_push kc_m1000000001 ?_
    refine w_retI rfl ?_
    exact ⟨ok, fr, (by first | (exact Or.inl ⟨by omega, by first | omega | (subst_vars; rfl), rfl⟩) | (exact Or.inr (⟨by omega, by first | omega | (subst_vars; rfl), by assumption⟩)))⟩
  refine w_ieq (by omega) (fun h => absurd h (by omega)) (fun _ => ?_)
  refine w_iload rfl ?_
  refine w_push kc_0 ?_
  refine w_push kc_99 ?_
  refine w_callS3I rfl (c_X8_within ok (by omega) (by omega) (by omega) (by omega) (by omega) (by omega)) ?_
  rintro z2 t2 ⟨rfl, hp2_0⟩
  rcases hp2_0 with ⟨rfl, hp2_0⟩ | ⟨rfl, hp2_0⟩
  · skip
    refine w_ine (by omega) (fun h => absurd h (by omega)) (fun _ => ?_)
    refine w_goto ?_
    refine w_step rfl ?_
    refine w_push kc_m1000000001 ?_
    refine w_retI rfl ?_
    exact ⟨ok, fr, (by first | (exact Or.inl ⟨by omega, by first | omega | (subst_vars; rfl), rfl⟩) | (exact Or.inr (⟨by omega, by first | omega | (subst_vars; rfl), by assumption⟩)))⟩
  refine w_ine (by omega) (fun _ => ?_) (fun h => absurd (by omega) h)
  refine w_step rfl ?_
  refine w_aload rfl ?_
  refine w_getR (g_0_0 _) ?_
  refine w_getR (g_1_6 _) ?_
  refine w_iload rfl ?_
  refine w_iald (i := (c).toNat) (ai_8 _) (by omega) (by omega) (ae_8 _) ok (fun z3 hz3 hl3 hh3 => ?_)
  refine w_istore (lv' := [some (.ref 0), some (.int (jI c)), some (.int (jI v)), some (.int (jI z3))]) rfl ?_
  refine w_aload rfl ?_
  refine w_getR (g_0_0 _) ?_
  refine w_getR (g_1_6 _) ?_
  refine w_iload rfl ?_
  refine w_iload rfl ?_
  refine w_iast (i := (c).toNat) (ai_8 _) rfl (by omega) (by omega) (ae_8 _) ok (by omega) (fun t4 ht4 ok4 => ?_)
  have fr4 := fr.uA ht4 (by simp)
  refine w_iload rfl ?_
  refine w_retI rfl ?_
  exact ⟨ok4, fr4, (by first | (exact Or.inl ⟨by omega, by first | omega | (subst_vars; rfl), rfl⟩) | (exact Or.inr (⟨by omega, by first | omega | (subst_vars; rfl), by assumption⟩)))⟩
set_option maxRecDepth 100000 in
set_option maxHeartbeats 4000000 in
theorem c_X8_wind {d : Nat} {t : TS} {v : Int}  (ok : OK t) (q0 : -2147483648 ≤ v) (q1 : v ≤ 2147483647) : CI (EX FU (d + 2)) 83 [.ref 0, .int (jI v)] (mk t) (fun z t' => OK t' ∧ Fr [(1, 12)] t t' ∧ (((¬ (0 ≤ v ∧ v ≤ 100)) ∧ z = (-1000000001) ∧ t' = t) ∨ ((0 ≤ v ∧ v ≤ 100) ∧ z = tI t 1 12 ∧ (t' = uI t 1 12 v)))) := by
  refine CI_ent (d := d + 1) (Bk := bX8_wind) (nL := 3) rfl rfl rfl (Nat.le_of_ble_eq_true rfl) ?_
  show Rn _ 1000000 0 [some (.ref 0), some (.int (jI v)), none] [] _ _
  have fr : Fr [(1, 12)] t t := Fr.rf _ _
  have hn0 := (ok.f fe_1_10).1
  have hn1 := (ok.f fe_1_10).2
  refine w_step rfl ?_
  refine w_iload rfl ?_
  refine w_push kc_0 ?_
  refine w_push kc_100 ?_
  refine w_callS3I rfl (c_X8_within ok (by omega) (by omega) (by omega) (by omega) (by omega) (by omega)) ?_
  rintro z1 t1 ⟨rfl, hp1_0⟩
  rcases hp1_0 with ⟨rfl, hp1_0⟩ | ⟨rfl, hp1_0⟩
  · skip
    refine w_ine (by omega) (fun h => absurd h (by omega)) (fun _ => ?_)
    refine w_push kc_m1000000001 ?_
    refine w_retI rfl ?_
    exact ⟨ok, fr, (by first | (exact Or.inl ⟨by omega, by first | omega | (subst_vars; rfl), rfl⟩) | (exact Or.inr (⟨by omega, by first | omega | (subst_vars; rfl), by assumption⟩)))⟩
  refine w_ine (by omega) (fun _ => ?_) (fun h => absurd (by omega) h)
  refine w_step rfl ?_
  refine w_aload rfl ?_
  refine w_getR (g_0_0 _) ?_
  refine w_getI (g_1_12 _) fe_1_12 ok (fun z2 hz2 hl2 hh2 => ?_)
  refine w_istore (lv' := [some (.ref 0), some (.int (jI v)), some (.int (jI z2))]) rfl ?_
  refine w_aload rfl ?_
  refine w_getR (g_0_0 _) ?_
  refine w_iload rfl ?_
  refine w_putI (p_1_12 _) fe_1_12 ok (by omega) (fun t3 ht3 ok3 => ?_)
  have fr3 := fr.uI ht3 (by simp)
  refine w_iload rfl ?_
  refine w_retI rfl ?_
  exact ⟨ok3, fr3, (by first | (exact Or.inl ⟨by omega, by first | omega | (subst_vars; rfl), rfl⟩) | (exact Or.inr (⟨by omega, by first | omega | (subst_vars; rfl), by assumption⟩)))⟩
set_option maxRecDepth 100000 in
set_option maxHeartbeats 4000000 in
theorem c_X8_seed {d : Nat} {t : TS} {v : Int}  (ok : OK t) (q0 : -2147483648 ≤ v) (q1 : v ≤ 2147483647) : CI (EX FU (d + 1)) 85 [.ref 0, .int (jI v)] (mk t) (fun z t' => OK t' ∧ Fr [(1, 14)] t t' ∧ (z = tI t 1 14) ∧ (t' = uI t 1 14 v)) := by
  refine CI_ent (d := d + 0) (Bk := bX8_seed) (nL := 3) rfl rfl rfl (Nat.le_of_ble_eq_true rfl) ?_
  show Rn _ 1000000 0 [some (.ref 0), some (.int (jI v)), none] [] _ _
  have fr : Fr [(1, 14)] t t := Fr.rf _ _
  have hn0 := (ok.f fe_1_10).1
  have hn1 := (ok.f fe_1_10).2
  refine w_step rfl ?_
  refine w_aload rfl ?_
  refine w_getR (g_0_0 _) ?_
  refine w_getI (g_1_14 _) fe_1_14 ok (fun z1 hz1 hl1 hh1 => ?_)
  refine w_istore (lv' := [some (.ref 0), some (.int (jI v)), some (.int (jI z1))]) rfl ?_
  refine w_aload rfl ?_
  refine w_getR (g_0_0 _) ?_
  refine w_iload rfl ?_
  refine w_putI (p_1_14 _) fe_1_14 ok (by omega) (fun t2 ht2 ok2 => ?_)
  have fr2 := fr.uI ht2 (by simp)
  refine w_iload rfl ?_
  refine w_retI rfl ?_
  exact ⟨ok2, fr2, (by omega), (by assumption)⟩
set_option maxRecDepth 100000 in
set_option maxHeartbeats 4000000 in
theorem c_X8_best {d : Nat} {t : TS} {m w : Int}  (ok : OK t) (q0 : -2147483648 ≤ m) (q1 : m ≤ 2147483647) (q2 : -2147483648 ≤ w) (q3 : w ≤ 2147483647) : CI (EX FU (d + 6)) 89 [.ref 0, .int (jI m), .int (jI w)] (mk t) (fun z t' => OK t' ∧ Fr [(35, 100), (36, 100)] t t' ∧ (-2147483648 ≤ z) ∧ (z ≤ 2147483647)) := by
  refine CI_ent (d := d + 5) (Bk := bX8_best) (nL := 3) rfl rfl rfl (Nat.le_of_ble_eq_true rfl) ?_
  show Rn _ 1000000 0 [some (.ref 0), some (.int (jI m)), some (.int (jI w))] [] _ _
  have fr : Fr [(35, 100), (36, 100)] t t := Fr.rf _ _
  have hn0 := (ok.f fe_1_10).1
  have hn1 := (ok.f fe_1_10).2
  refine w_step rfl ?_
  refine w_iload rfl ?_
  refine w_push kc_1 ?_
  refine w_push kc_6 ?_
  refine w_callS3I rfl (c_X8_within ok (by omega) (by omega) (by omega) (by omega) (by omega) (by omega)) ?_
  rintro z1 t1 ⟨rfl, hp1_0⟩
  rcases hp1_0 with ⟨rfl, hp1_0⟩ | ⟨rfl, hp1_0⟩
  · skip
    refine w_ieq (by omega) (fun _ => ?_) (fun h => absurd (by omega) h)
    refine w_step rfl ?_
    refine w_push kc_m1000000001 ?_
    refine w_retI rfl ?_
    exact ⟨ok, fr, (by omega), (by omega)⟩
  refine w_ieq (by omega) (fun h => absurd h (by omega)) (fun _ => ?_)
  refine w_iload rfl ?_
  refine w_push kc_0 ?_
  refine w_push kc_1 ?_
  refine w_callS3I rfl (c_X8_within ok (by omega) (by omega) (by omega) (by omega) (by omega) (by omega)) ?_
  rintro z2 t2 ⟨rfl, hp2_0⟩
  rcases hp2_0 with ⟨rfl, hp2_0⟩ | ⟨rfl, hp2_0⟩
  · skip
    refine w_ine (by omega) (fun h => absurd h (by omega)) (fun _ => ?_)
    refine w_goto ?_
    refine w_step rfl ?_
    refine w_push kc_m1000000001 ?_
    refine w_retI rfl ?_
    exact ⟨ok, fr, (by omega), (by omega)⟩
  refine w_ine (by omega) (fun _ => ?_) (fun h => absurd (by omega) h)
  refine w_step rfl ?_
  refine w_aload rfl ?_
  refine w_getR (g_0_2 _) ?_
  refine w_aload rfl ?_
  refine w_getR (g_0_0 _) ?_
  refine w_iload rfl ?_
  refine w_iload rfl ?_
  refine w_callV3I (oj_23 _).choose_spec rfl (c_X7_bestLaying ok (by omega) (by omega) (by omega) (by omega)) ?_
  rintro z3 t3 ⟨ok3, fq3, hp3_0, hp3_1⟩
  have fr3 := fr.then fq3 (by simp)
  refine w_retI rfl ?_
  exact ⟨ok3, fr3, (by omega), (by omega)⟩
set_option maxRecDepth 100000 in
set_option maxHeartbeats 4000000 in
theorem c_X8_seen {d : Nat} {t : TS} {k w : Int}  (ok : OK t) (q0 : -2147483648 ≤ k) (q1 : k ≤ 2147483647) (q2 : -2147483648 ≤ w) (q3 : w ≤ 2147483647) : CI (EX FU (d + 4)) 97 [.ref 0, .int (jI k), .int (jI w)] (mk t) (fun z t' => t = t' ∧ (-2147483648 ≤ z) ∧ (z ≤ 2147483647)) := by
  refine CI_ent (d := d + 3) (Bk := bX8_seen) (nL := 7) rfl rfl rfl (Nat.le_of_ble_eq_true rfl) ?_
  show Rn _ 1000000 0 [some (.ref 0), some (.int (jI k)), some (.int (jI w)), none, none, none, none] [] _ _
  have hn0 := (ok.f fe_1_10).1
  have hn1 := (ok.f fe_1_10).2
  refine w_step rfl ?_
  refine w_iload rfl ?_
  refine w_callS1I rfl (c_X8_isSheet ok (by omega) (by omega)) ?_
  rintro z1 t1 ⟨rfl, hp1_0⟩
  rcases hp1_0 with ⟨rfl, hp1_0⟩ | ⟨rfl, hp1_0⟩
  · skip
    refine w_ieq (by omega) (fun _ => ?_) (fun h => absurd (by omega) h)
    refine w_step rfl ?_
    refine w_push kc_m1000000001 ?_
    refine w_retI rfl ?_
    exact ⟨rfl, (by omega), (by omega)⟩
  refine w_ieq (by omega) (fun h => absurd h (by omega)) (fun _ => ?_)
  refine w_iload rfl ?_
  refine w_push kc_0 ?_
  refine w_push kc_1 ?_
  refine w_callS3I rfl (c_X8_within ok (by omega) (by omega) (by omega) (by omega) (by omega) (by omega)) ?_
  rintro z2 t2 ⟨rfl, hp2_0⟩
  rcases hp2_0 with ⟨rfl, hp2_0⟩ | ⟨rfl, hp2_0⟩
  · skip
    refine w_ine (by omega) (fun h => absurd h (by omega)) (fun _ => ?_)
    refine w_goto ?_
    refine w_step rfl ?_
    refine w_push kc_m1000000001 ?_
    refine w_retI rfl ?_
    exact ⟨rfl, (by omega), (by omega)⟩
  refine w_ine (by omega) (fun _ => ?_) (fun h => absurd (by omega) h)
  refine w_step rfl ?_
  refine w_aload rfl ?_
  refine w_getR (g_0_5 _) ?_
  refine w_iload rfl ?_
  refine w_sheets (i := (k).toNat) (by omega) (by omega) ?_
  refine w_callV0I (ojH (isH_s (i := (k).toNat) (by omega)) _).choose_spec rfl (c_X2_isMissing (isH_s (i := (k).toNat) (by omega)) ok) ?_
  rintro z3 t3 ⟨rfl, hp3_0⟩
  rcases hp3_0 with ⟨rfl, hp3_0⟩ | ⟨rfl, hp3_0⟩
  · skip
    refine w_ieq (by omega) (fun _ => ?_) (fun h => absurd (by omega) h)
    refine w_step rfl ?_
    refine w_aload rfl ?_
    refine w_getR (g_0_0 _) ?_
    refine w_push kc_0 ?_
    refine w_aload rfl ?_
    refine w_getR (g_0_5 _) ?_
    refine w_iload rfl ?_
    refine w_sheets (i := (k).toNat) (by omega) (by omega) ?_
    refine w_callV2I (oj_1 _).choose_spec rfl (c_X4_unlike isT1 (isH_s (i := (k).toNat) (by omega)) ok (by omega) (by omega)) ?_
    rintro z4 t4 ⟨rfl, hp4_0, hp4_1⟩
    refine w_istore (lv' := [some (.ref 0), some (.int (jI k)), some (.int (jI w)), some (.int (jI z4)), none, none, none]) rfl ?_
    refine w_push kc_0 ?_
    refine w_istore (lv' := [some (.ref 0), some (.int (jI k)), some (.int (jI w)), some (.int (jI z4)), some (.int (jI 0)), none, none]) rfl ?_
    refine w_push kc_1 ?_
    refine w_istore (lv' := [some (.ref 0), some (.int (jI k)), some (.int (jI w)), some (.int (jI z4)), some (.int (jI 0)), some (.int (jI 1)), none]) rfl ?_
    refine w_goto ?_
    have key4 : ∀ (n4 M4 : Nat) (least : Int) (which : Int) (r : Int) (o6 : Option Int), (-2147483648 ≤ least) → (least ≤ 2147483647) → (0 ≤ which) → (which ≤ 3) → (1 ≤ r) → (r ≤ 4) → 4 - r < (n4 : Int) → 60 * n4 + (1000) ≤ M4 → Rn (bX8_seen (EX FU (d + 3))) M4 4 [some (.ref 0), some (.int (jI k)), some (.int (jI w)), some (.int (jI least)), some (.int (jI which)), some (.int (jI r)), dv o6] [] (mk t) (PI (fun z t' => t = t' ∧ (-2147483648 ≤ z) ∧ (z ≤ 2147483647))) := by
      intro n4
      induction n4 with
      | zero => intro M4 least which r o6 i4_0 i4_1 i4_2 i4_3 i4_4 i4_5 v4 f4; exfalso; omega
      | succ n4 ih4 =>
        intro M4 least which r o6 i4_0 i4_1 i4_2 i4_3 i4_4 i4_5 v4 f4
        obtain ⟨M4, rfl⟩ : ∃ m, M4 = m + 60 := ⟨M4 - 60, by omega⟩
        refine w_step rfl ?_
        refine w_iload rfl ?_
        refine w_push kc_4 ?_
        refine w_cge (by omega) (fun h5 => ?_) (fun h5 => ?_)
        · skip
          refine w_step rfl ?_
          refine w_iload rfl ?_
          refine w_ine (by omega) (fun h6 => ?_) (fun h6 => ?_)
          · skip
            refine w_step rfl ?_
            refine w_iload rfl ?_
            refine w_goto ?_
            refine w_step rfl ?_
            refine w_retI rfl ?_
            exact ⟨rfl, (by omega), (by omega)⟩
          refine w_iload rfl ?_
          refine w_goto ?_
          refine w_step rfl ?_
          refine w_retI rfl ?_
          exact ⟨rfl, (by omega), (by omega)⟩
        refine w_aload rfl ?_
        refine w_getR (g_0_0 _) ?_
        refine w_iload rfl ?_
        refine w_aload rfl ?_
        refine w_getR (g_0_5 _) ?_
        refine w_iload rfl ?_
        refine w_sheets (i := (k).toNat) (by omega) (by omega) ?_
        refine w_callV2I (oj_1 _).choose_spec rfl (c_X4_unlike isT1 (isH_s (i := (k).toNat) (by omega)) ok (by omega) (by omega)) ?_
        rintro z7 t7 ⟨rfl, hp7_0, hp7_1⟩
        refine w_istore (lv' := [some (.ref 0), some (.int (jI k)), some (.int (jI w)), some (.int (jI least)), some (.int (jI which)), some (.int (jI r)), some (.int (jI z7))]) rfl ?_
        refine w_iload rfl ?_
        refine w_iload rfl ?_
        refine w_cge (by omega) (fun h8 => ?_) (fun h8 => ?_)
        · skip
          refine w_step rfl ?_
          refine w_iinc (lv' := [some (.ref 0), some (.int (jI k)), some (.int (jI w)), some (.int (jI least)), some (.int (jI which)), some (.int (jI (r + 1))), some (.int (jI z7))]) kc_1 rfl rfl ?_
          refine w_goto ?_
          exact ih4 _ least which (r + 1) (some z7)  (by omega) (by omega) (by omega) (by omega) (by omega) (by omega) (by omega) (by omega)
        refine w_iload rfl ?_
        refine w_istore (lv' := [some (.ref 0), some (.int (jI k)), some (.int (jI w)), some (.int (jI z7)), some (.int (jI which)), some (.int (jI r)), some (.int (jI z7))]) rfl ?_
        refine w_iload rfl ?_
        refine w_istore (lv' := [some (.ref 0), some (.int (jI k)), some (.int (jI w)), some (.int (jI z7)), some (.int (jI r)), some (.int (jI r)), some (.int (jI z7))]) rfl ?_
        refine w_goto ?_
        refine w_step rfl ?_
        refine w_iinc (lv' := [some (.ref 0), some (.int (jI k)), some (.int (jI w)), some (.int (jI z7)), some (.int (jI r)), some (.int (jI (r + 1))), some (.int (jI z7))]) kc_1 rfl rfl ?_
        refine w_goto ?_
        exact ih4 _ z7 r (r + 1) (some z7)  (by omega) (by omega) (by omega) (by omega) (by omega) (by omega) (by omega) (by omega)
    exact key4 5 _ z4 0 1 none  (by omega) (by omega) (by omega) (by omega) (by omega) (by omega) (by omega) (by omega)
  refine w_ieq (by omega) (fun h => absurd h (by omega)) (fun _ => ?_)
  refine w_push kc_m1000000011 ?_
  refine w_retI rfl ?_
  exact ⟨rfl, (by omega), (by omega)⟩
set_option maxRecDepth 100000 in
set_option maxHeartbeats 4000000 in
theorem c_X8_trim {d : Nat} {t : TS} {n : Int}  (ok : OK t) (q0 : -2147483648 ≤ n) (q1 : n ≤ 2147483647) : CI (EX FU (d + 2)) 101 [.ref 0, .int (jI n)] (mk t) (fun z t' => OK t' ∧ Fr [(37, 1)] t t' ∧ (((¬ (0 ≤ n ∧ n ≤ tI t 37 1)) ∧ z = (-1000000001) ∧ t' = t) ∨ ((0 ≤ n ∧ n ≤ tI t 37 1) ∧ z = n ∧ (t' = uI t 37 1 n)))) := by
  refine CI_ent (d := d + 1) (Bk := bX8_trim) (nL := 2) rfl rfl rfl (Nat.le_of_ble_eq_true rfl) ?_
  show Rn _ 1000000 0 [some (.ref 0), some (.int (jI n))] [] _ _
  have fr : Fr [(37, 1)] t t := Fr.rf _ _
  have hn0 := (ok.f fe_1_10).1
  have hn1 := (ok.f fe_1_10).2
  refine w_step rfl ?_
  refine w_iload rfl ?_
  refine w_push kc_0 ?_
  refine w_aload rfl ?_
  refine w_getR (g_0_3 _) ?_
  refine w_getI (g_37_1 _) fe_37_1 ok (fun z1 hz1 hl1 hh1 => ?_)
  refine w_callS3I rfl (c_X8_within ok (by omega) (by omega) (by omega) (by omega) (by omega) (by omega)) ?_
  rintro z2 t2 ⟨rfl, hp2_0⟩
  rcases hp2_0 with ⟨rfl, hp2_0⟩ | ⟨rfl, hp2_0⟩
  · skip
    refine w_ine (by omega) (fun h => absurd h (by omega)) (fun _ => ?_)
    refine w_push kc_m1000000001 ?_
    refine w_retI rfl ?_
    exact ⟨ok, fr, (by first | (exact Or.inl ⟨by omega, by first | omega | (subst_vars; rfl), rfl⟩) | (exact Or.inr (⟨by omega, by first | omega | (subst_vars; rfl), by assumption⟩)))⟩
  refine w_ine (by omega) (fun _ => ?_) (fun h => absurd (by omega) h)
  refine w_step rfl ?_
  refine w_aload rfl ?_
  refine w_getR (g_0_3 _) ?_
  refine w_iload rfl ?_
  refine w_putI (p_37_1 _) fe_37_1 ok (by omega) (fun t3 ht3 ok3 => ?_)
  have fr3 := fr.uI ht3 (by simp)
  refine w_iload rfl ?_
  refine w_retI rfl ?_
  exact ⟨ok3, fr3, (by first | (exact Or.inl ⟨by omega, by first | omega | (subst_vars; rfl), rfl⟩) | (exact Or.inr (⟨by omega, by first | omega | (subst_vars; rfl), by assumption⟩)))⟩
