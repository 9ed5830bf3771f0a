theorem comes_e {t u : TS} {c : Nat} {v : Int} (hc : 29 ≤ c ∧ c ≤ 31) (h0 : tA u 69 (c + 5 * (tA t 69 1).toNat) = v) (h1 : ∀ i, ¬ i = 1 → (i < 29 + 5 * (tA t 69 1).toNat ∨ 34 + 5 * (tA t 69 1).toNat ≤ i) → tA u 69 i = tA t 69 i) : ∀ m : Nat, tA u 69 (c + 5 * m) = if m = (tA t 69 1).toNat then v else tA t 69 (c + 5 * m) := by
  intro m
  by_cases e : m = (tA t 69 1).toNat
  · rw [if_pos e, e, h0]
  · rw [if_neg e]
    exact h1 _ (by omega) (by omega)
set_option maxRecDepth 100000 in
set_option maxHeartbeats 4000000 in
theorem c_X9_as {d : Nat} {t : TS} {s k : Int}  (ok : OK t) (q0 : -2147483648 ≤ s) (q1 : s ≤ 2147483647) (q2 : -2147483648 ≤ k) (q3 : k ≤ 2147483647) : CI (EX FU (d + 3)) 147 [.ref 68, .int (jI s), .int (jI k)] (mk t) (fun z t' => t = t' ∧ (((¬ (0 ≤ s ∧ s ≤ tA t 69 1 - 1 ∧ 0 ≤ k ∧ k ≤ 5)) ∧ z = (-1000000001)) ∨ ((0 ≤ s ∧ s ≤ tA t 69 1 - 1 ∧ 0 ≤ k ∧ k ≤ 5) ∧ (tA t 69 (29 + 5 * s + 0).toNat = k ∨ k = 0 ∨ (k = 1 ∧ tA t 69 (29 + 5 * s + 0).toNat = 3) ∨ (k = 2 ∧ tA t 69 (29 + 5 * s + 0).toNat = 4)) ∧ z = tA t 69 (29 + 5 * s + 1).toNat) ∨ ((0 ≤ s ∧ s ≤ tA t 69 1 - 1 ∧ 0 ≤ k ∧ k ≤ 5) ∧ (¬ (tA t 69 (29 + 5 * s + 0).toNat = k ∨ k = 0 ∨ (k = 1 ∧ tA t 69 (29 + 5 * s + 0).toNat = 3) ∨ (k = 2 ∧ tA t 69 (29 + 5 * s + 0).toNat = 4))) ∧ z = (-1000000012)))) := by
  refine CI_ent (d := d + 2) (Bk := bX9_as) (nL := 3) rfl rfl rfl (Nat.le_of_ble_eq_true rfl) ?_
  show Rn _ 1000000 0 [some (.ref 68), some (.int (jI s)), some (.int (jI k))] [] _ _
  have hn0 := (ok.a (ax_69 nr_1)).1
  have hn1 := (ok.a (ax_69 nr_1)).2
  refine w_step rfl ?_
  refine w_aload rfl ?_
  refine w_iload rfl ?_
  refine w_callV1I (oj_68 _).choose_spec rfl (c_X9_isStone ok (by omega) (by omega)) ?_
  rintro z1 t1 ⟨rfl, hp1_0⟩
  rcases hp1_0 with ⟨rfl, hp1_0⟩ | ⟨rfl, hp1_0⟩
  · skip
    refine w_ieq (by omega) (fun _ => ?_) (fun h => absurd (by omega) h)
    refine w_step rfl ?_
    refine w_push kc_m1000000001 ?_
    refine w_retI rfl ?_
    exact ⟨rfl, (by first | (exact Or.inl ⟨by omega, by first | omega | (subst_vars; rfl)⟩) | (exact Or.inr (Or.inl ⟨by omega, by omega, by first | omega | (subst_vars; rfl)⟩)) | (exact Or.inr (Or.inr (⟨by omega, by omega, by first | omega | (subst_vars; rfl)⟩))))⟩
  refine w_ieq (by omega) (fun h => absurd h (by omega)) (fun _ => ?_)
  refine w_iload rfl ?_
  refine w_push kc_0 ?_
  refine w_push kc_5 ?_
  refine w_callS3I rfl (c_X9_in ok (by omega) (by omega) (by omega) (by omega) (by omega) (by omega)) ?_
  rintro z2 t2 ⟨rfl, hp2_0⟩
  rcases hp2_0 with ⟨rfl, hp2_0⟩ | ⟨rfl, hp2_0⟩
  · skip
    refine w_ine (by omega) (fun h => absurd h (by omega)) (fun _ => ?_)
    refine w_goto ?_
    refine w_step rfl ?_
    refine w_push kc_m1000000001 ?_
    refine w_retI rfl ?_
    exact ⟨rfl, (by first | (exact Or.inl ⟨by omega, by first | omega | (subst_vars; rfl)⟩) | (exact Or.inr (Or.inl ⟨by omega, by omega, by first | omega | (subst_vars; rfl)⟩)) | (exact Or.inr (Or.inr (⟨by omega, by omega, by first | omega | (subst_vars; rfl)⟩))))⟩
  refine w_ine (by omega) (fun _ => ?_) (fun h => absurd (by omega) h)
  refine w_step rfl ?_
  refine w_aload rfl ?_
  refine w_iload rfl ?_
  refine w_push kc_0 ?_
  refine w_callV2I (oj_68 _).choose_spec rfl (c_X9_of ok (by omega) (by omega) (by omega) (by omega)) ?_
  rintro z3 t3 ⟨rfl, hp3_0, hp3_1, hp3_2⟩
  have hr3 := of_r0 (s := s) ok (by omega)
  refine w_iload rfl ?_
  refine w_callS2I rfl (c_X9_isUnder ok (by omega) (by omega) (by omega) (by omega)) ?_
  rintro z4 t4 ⟨rfl, hp4_0⟩
  rcases hp4_0 with ⟨rfl, hp4_0⟩ | ⟨rfl, hp4_0⟩
  · skip
    refine w_ieq (by omega) (fun _ => ?_) (fun h => absurd (by omega) h)
    refine w_step rfl ?_
    refine w_push kc_m1000000012 ?_
    refine w_goto ?_
    refine w_step rfl ?_
    refine w_retI rfl ?_
    exact ⟨rfl, (by first | (exact Or.inl ⟨by omega, by first | omega | (subst_vars; rfl)⟩) | (exact Or.inr (Or.inl ⟨by omega, by omega, by first | omega | (subst_vars; rfl)⟩)) | (exact Or.inr (Or.inr (⟨by omega, by omega, by first | omega | (subst_vars; rfl)⟩))))⟩
  refine w_ieq (by omega) (fun h => absurd h (by omega)) (fun _ => ?_)
  refine w_aload rfl ?_
  refine w_iload rfl ?_
  refine w_push kc_1 ?_
  refine w_callV2I (oj_68 _).choose_spec rfl (c_X9_of ok (by omega) (by omega) (by omega) (by omega)) ?_
  rintro z5 t5 ⟨rfl, hp5_0, hp5_1, hp5_2⟩
  have hr5 := of_r1 (s := s) ok (by omega)
  refine w_goto ?_
  refine w_step rfl ?_
  refine w_retI rfl ?_
  exact ⟨rfl, (by first | (exact Or.inl ⟨by omega, by first | omega | (subst_vars; rfl)⟩) | (exact Or.inr (Or.inl ⟨by omega, by omega, by first | omega | (subst_vars; rfl)⟩)) | (exact Or.inr (Or.inr (⟨by omega, by omega, by first | omega | (subst_vars; rfl)⟩))))⟩
set_option maxRecDepth 100000 in
set_option maxHeartbeats 4000000 in
theorem c_X9_turns {d : Nat} {t : TS} {s k : Int}  (ok : OK t) (q0 : -2147483648 ≤ s) (q1 : s ≤ 2147483647) (q2 : -2147483648 ≤ k) (q3 : k ≤ 2147483647) : CI (EX FU (d + 3)) 148 [.ref 68, .int (jI s), .int (jI k)] (mk t) (fun z t' => OK t' ∧ Fr [(69, 100)] t t' ∧ (((¬ (0 ≤ s ∧ s ≤ tA t 69 1 - 1 ∧ 0 ≤ k ∧ k ≤ 5)) ∧ z = (-1000000001) ∧ t' = t) ∨ ((0 ≤ s ∧ s ≤ tA t 69 1 - 1 ∧ 0 ≤ k ∧ k ≤ 5) ∧ z = tA t 69 (29 + 5 * s).toNat ∧ (t' = uA t 69 (29 + 5 * s).toNat k)))) := by
  refine CI_ent (d := d + 2) (Bk := bX9_turns) (nL := 3) rfl rfl rfl (Nat.le_of_ble_eq_true rfl) ?_
  show Rn _ 1000000 0 [some (.ref 68), some (.int (jI s)), some (.int (jI k))] [] _ _
  have fr : Fr [(69, 100)] t t := Fr.rf _ _
  have hn0 := (ok.a (ax_69 nr_1)).1
  have hn1 := (ok.a (ax_69 nr_1)).2
  refine w_step rfl ?_
  refine w_aload rfl ?_
  refine w_iload rfl ?_
  refine w_callV1I (oj_68 _).choose_spec rfl (c_X9_isStone ok (by omega) (by omega)) ?_
  rintro z1 t1 ⟨rfl, hp1_0⟩
  rcases hp1_0 with ⟨rfl, hp1_0⟩ | ⟨rfl, hp1_0⟩
  · skip
    refine w_ieq (by omega) (fun _ => ?_) (fun h => absurd (by omega) h)
    refine w_step rfl ?_
    refine w_push kc_m1000000001 ?_
    refine w_goto ?_
    refine w_step rfl ?_
    refine w_retI rfl ?_
    exact ⟨ok, fr, (by first | (exact Or.inl ⟨by omega, by first | omega | (subst_vars; rfl), rfl⟩) | (exact Or.inr (⟨by omega, by first | omega | (subst_vars; rfl), eB⟩)))⟩
  refine w_ieq (by omega) (fun h => absurd h (by omega)) (fun _ => ?_)
  refine w_iload rfl ?_
  refine w_push kc_0 ?_
  refine w_push kc_5 ?_
  refine w_callS3I rfl (c_X9_in ok (by omega) (by omega) (by omega) (by omega) (by omega) (by omega)) ?_
  rintro z2 t2 ⟨rfl, hp2_0⟩
  rcases hp2_0 with ⟨rfl, hp2_0⟩ | ⟨rfl, hp2_0⟩
  · skip
    refine w_ieq (by omega) (fun _ => ?_) (fun h => absurd (by omega) h)
    refine w_step rfl ?_
    refine w_push kc_m1000000001 ?_
    refine w_goto ?_
    refine w_step rfl ?_
    refine w_retI rfl ?_
    exact ⟨ok, fr, (by first | (exact Or.inl ⟨by omega, by first | omega | (subst_vars; rfl), rfl⟩) | (exact Or.inr (⟨by omega, by first | omega | (subst_vars; rfl), eB⟩)))⟩
  refine w_ieq (by omega) (fun h => absurd h (by omega)) (fun _ => ?_)
  refine w_aload rfl ?_
  refine w_push kc_29 ?_
  refine w_push kc_5 ?_
  refine w_iload rfl ?_
  refine w_mul ?_
  refine w_add ?_
  refine w_iload rfl ?_
  refine w_callV2I (oj_68 _).choose_spec rfl (c_X9_becomes ok (by omega) (by omega) ⟨_, _, nr_S0 (s := s.toNat) (by omega), by omega, by omega⟩) ?_
  rintro z3 t3 ⟨ok3, fq3, hp3_0, hp3_1, hp3_2, hp3_3⟩
  have fr3 := fr.then fq3 (by simp)
  have eB := hp3_1
  refine w_goto ?_
  refine w_step rfl ?_
  refine w_retI rfl ?_
  exact ⟨ok3, fr3, (by first | (exact Or.inl ⟨by omega, by first | omega | (subst_vars; rfl), rfl⟩) | (exact Or.inr (⟨by omega, by first | omega | (subst_vars; rfl), eB⟩)))⟩
set_option maxRecDepth 100000 in
set_option maxHeartbeats 4000000 in
theorem c_X9_want {d : Nat} {t : TS} {c v : Int}  (ok : OK t) (q0 : -2147483648 ≤ c) (q1 : c ≤ 2147483647) (q2 : -2147483648 ≤ v) (q3 : v ≤ 2147483647) : CI (EX FU (d + 2)) 152 [.ref 68, .int (jI c), .int (jI v)] (mk t) (fun z t' => OK t' ∧ Fr [(69, 100)] t t' ∧ (((¬ (0 ≤ c ∧ c ≤ 23 ∧ 0 ≤ v ∧ v ≤ 99)) ∧ z = (-1000000001) ∧ t' = t) ∨ ((0 ≤ c ∧ c ≤ 23 ∧ 0 ≤ v ∧ v ≤ 99) ∧ z = tA t 69 (5 + c).toNat ∧ (t' = uA t 69 (5 + c).toNat v)))) := by
  refine CI_ent (d := d + 1) (Bk := bX9_want) (nL := 3) rfl rfl rfl (Nat.le_of_ble_eq_true rfl) ?_
  show Rn _ 1000000 0 [some (.ref 68), some (.int (jI c)), some (.int (jI v))] [] _ _
  have fr : Fr [(69, 100)] t t := Fr.rf _ _
  have hn0 := (ok.a (ax_69 nr_1)).1
  have hn1 := (ok.a (ax_69 nr_1)).2
  refine w_step rfl ?_
  refine w_iload rfl ?_
  refine w_push kc_0 ?_
  refine w_push kc_23 ?_
  refine w_callS3I rfl (c_X9_in ok (by omega) (by omega) (by omega) (by omega) (by omega) (by omega)) ?_
  rintro z1 t1 ⟨rfl, hp1_0⟩
  rcases hp1_0 with ⟨rfl, hp1_0⟩ | ⟨rfl, hp1_0⟩
  · skip
    refine w_ieq (by omega) (fun _ => ?_) (fun h => absurd (by omega) h)
    refine w_step rfl ?_
    refine w_push kc_m1000000001 ?_
    refine w_goto ?_
    refine w_step rfl ?_
    refine w_retI rfl ?_
    exact ⟨ok, fr, (by first | (exact Or.inl ⟨by omega, by first | omega | (subst_vars; rfl), rfl⟩) | (exact Or.inr (⟨by omega, by first | omega | (subst_vars; rfl), eB⟩)))⟩
  refine w_ieq (by omega) (fun h => absurd h (by omega)) (fun _ => ?_)
  refine w_iload rfl ?_
  refine w_push kc_0 ?_
  refine w_push kc_99 ?_
  refine w_callS3I rfl (c_X9_in ok (by omega) (by omega) (by omega) (by omega) (by omega) (by omega)) ?_
  rintro z2 t2 ⟨rfl, hp2_0⟩
  rcases hp2_0 with ⟨rfl, hp2_0⟩ | ⟨rfl, hp2_0⟩
  · skip
    refine w_ieq (by omega) (fun _ => ?_) (fun h => absurd (by omega) h)
    refine w_step rfl ?_
    refine w_push kc_m1000000001 ?_
    refine w_goto ?_
    refine w_step rfl ?_
    refine w_retI rfl ?_
    exact ⟨ok, fr, (by first | (exact Or.inl ⟨by omega, by first | omega | (subst_vars; rfl), rfl⟩) | (exact Or.inr (⟨by omega, by first | omega | (subst_vars; rfl), eB⟩)))⟩
  refine w_ieq (by omega) (fun h => absurd h (by omega)) (fun _ => ?_)
  refine w_aload rfl ?_
  refine w_push kc_5 ?_
  refine w_iload rfl ?_
  refine w_add ?_
  refine w_iload rfl ?_
  refine w_callV2I (oj_68 _).choose_spec rfl (c_X9_becomes ok (by omega) (by omega) ⟨_, _, nr_W (by omega), by omega, by omega⟩) ?_
  rintro z3 t3 ⟨ok3, fq3, hp3_0, hp3_1, hp3_2, hp3_3⟩
  have fr3 := fr.then fq3 (by simp)
  have eB := hp3_1
  refine w_goto ?_
  refine w_step rfl ?_
  refine w_retI rfl ?_
  exact ⟨ok3, fr3, (by first | (exact Or.inl ⟨by omega, by first | omega | (subst_vars; rfl), rfl⟩) | (exact Or.inr (⟨by omega, by first | omega | (subst_vars; rfl), eB⟩)))⟩
set_option maxRecDepth 100000 in
set_option maxHeartbeats 4000000 in
theorem c_X9_wind {d : Nat} {t : TS} {v : Int}  (ok : OK t) (q0 : -2147483648 ≤ v) (q1 : v ≤ 2147483647) : CI (EX FU (d + 2)) 153 [.ref 68, .int (jI v)] (mk t) (fun z t' => OK t' ∧ Fr [(69, 100)] t t' ∧ (((¬ (0 ≤ v ∧ v ≤ 100)) ∧ z = (-1000000001) ∧ t' = t) ∨ ((0 ≤ v ∧ v ≤ 100) ∧ z = tA t 69 3 ∧ (t' = uA t 69 3 v)))) := by
  refine CI_ent (d := d + 1) (Bk := bX9_wind) (nL := 2) rfl rfl rfl (Nat.le_of_ble_eq_true rfl) ?_
  show Rn _ 1000000 0 [some (.ref 68), some (.int (jI v))] [] _ _
  have fr : Fr [(69, 100)] t t := Fr.rf _ _
  have hn0 := (ok.a (ax_69 nr_1)).1
  have hn1 := (ok.a (ax_69 nr_1)).2
  refine w_step rfl ?_
  refine w_iload rfl ?_
  refine w_push kc_0 ?_
  refine w_push kc_100 ?_
  refine w_callS3I rfl (c_X9_in ok (by omega) (by omega) (by omega) (by omega) (by omega) (by omega)) ?_
  rintro z1 t1 ⟨rfl, hp1_0⟩
  rcases hp1_0 with ⟨rfl, hp1_0⟩ | ⟨rfl, hp1_0⟩
  · skip
    refine w_ieq (by omega) (fun _ => ?_) (fun h => absurd (by omega) h)
    refine w_step rfl ?_
    refine w_push kc_m1000000001 ?_
    refine w_goto ?_
    refine w_step rfl ?_
    refine w_retI rfl ?_
    exact ⟨ok, fr, (by first | (exact Or.inl ⟨by omega, by first | omega | (subst_vars; rfl), rfl⟩) | (exact Or.inr (⟨by omega, eC, eB⟩)))⟩
  refine w_ieq (by omega) (fun h => absurd h (by omega)) (fun _ => ?_)
  refine w_aload rfl ?_
  refine w_push kc_3 ?_
  refine w_iload rfl ?_
  refine w_callV2I (oj_68 _).choose_spec rfl (c_X9_becomes ok (by omega) (by omega) ⟨_, _, nr_3, by omega, by omega⟩) ?_
  rintro z2 t2 ⟨ok2, fq2, hp2_0, hp2_1, hp2_2, hp2_3⟩
  have fr2 := fr.then fq2 (by simp)
  have eB := hp2_1
  have eC := hp2_0
  refine w_goto ?_
  refine w_step rfl ?_
  refine w_retI rfl ?_
  exact ⟨ok2, fr2, (by first | (exact Or.inl ⟨by omega, by first | omega | (subst_vars; rfl), rfl⟩) | (exact Or.inr (⟨by omega, eC, eB⟩)))⟩
set_option maxRecDepth 100000 in
set_option maxHeartbeats 4000000 in
theorem c_X9_seed {d : Nat} {t : TS} {v : Int}  (ok : OK t) (q0 : -2147483648 ≤ v) (q1 : v ≤ 2147483647) : CI (EX FU (d + 2)) 156 [.ref 68, .int (jI v)] (mk t) (fun z t' => OK t' ∧ Fr [(69, 100)] t t' ∧ (z = tA t 69 0) ∧ (t' = uA t 69 0 v)) := by
  refine CI_ent (d := d + 1) (Bk := bX9_seed) (nL := 2) rfl rfl rfl (Nat.le_of_ble_eq_true rfl) ?_
  show Rn _ 1000000 0 [some (.ref 68), some (.int (jI v))] [] _ _
  have fr : Fr [(69, 100)] t t := Fr.rf _ _
  have hn0 := (ok.a (ax_69 nr_1)).1
  have hn1 := (ok.a (ax_69 nr_1)).2
  refine w_step rfl ?_
  refine w_aload rfl ?_
  refine w_push kc_0 ?_
  refine w_iload rfl ?_
  refine w_callV2I (oj_68 _).choose_spec rfl (c_X9_becomes ok (by omega) (by omega) ⟨_, _, nr_0, by omega, by omega⟩) ?_
  rintro z1 t1 ⟨ok1, fq1, hp1_0, hp1_1, hp1_2, hp1_3⟩
  have fr1 := fr.then fq1 (by simp)
  have eB := hp1_1
  have eC := hp1_0
  refine w_retI rfl ?_
  exact ⟨ok1, fr1, eC, eB⟩
set_option maxRecDepth 100000 in
set_option maxHeartbeats 4000000 in
theorem c_X9_seen {d : Nat} {t : TS} {k w : Int}  (ok : OK t) (q0 : WF t 69) (q1 : -2147483648 ≤ k) (q2 : k ≤ 2147483647) (q3 : -2147483648 ≤ w) (q4 : w ≤ 2147483647) : CI (EX FU (d + 6)) 184 [.ref 68, .int (jI k), .int (jI w)] (mk t) (fun z t' => OK t' ∧ Fr [(81, 100), (82, 100)] t t' ∧ (-2147483648 ≤ z) ∧ (z ≤ 2147483647)) := by
  refine CI_ent (d := d + 5) (Bk := bX9_seen) (nL := 9) rfl rfl rfl (Nat.le_of_ble_eq_true rfl) ?_
  show Rn _ 1000000 0 [some (.ref 68), some (.int (jI k)), some (.int (jI w)), none, none, none, none, none, none] [] _ _
  have fr : Fr [(81, 100), (82, 100)] t t := Fr.rf _ _
  have hn0 := (ok.a (ax_69 nr_1)).1
  have hn1 := (ok.a (ax_69 nr_1)).2
  refine w_step rfl ?_
  refine w_iload rfl ?_
  refine w_callS1I rfl (c_X9_isSheet ok (by omega) (by omega)) ?_
  rintro z1 t1 ⟨rfl, hp1_0⟩
  rcases hp1_0 with ⟨rfl, hp1_0⟩ | ⟨rfl, hp1_0⟩
  · skip
    refine w_ieq (by omega) (fun _ => ?_) (fun h => absurd (by omega) h)
    refine w_step rfl ?_
    refine w_push kc_m1000000001 ?_
    refine w_retI rfl ?_
    exact ⟨ok, fr, (by omega), (by omega)⟩
  refine w_ieq (by omega) (fun h => absurd h (by omega)) (fun _ => ?_)
  refine w_iload rfl ?_
  refine w_push kc_0 ?_
  refine w_push kc_1 ?_
  refine w_callS3I rfl (c_X9_in ok (by omega) (by omega) (by omega) (by omega) (by omega) (by omega)) ?_
  rintro z2 t2 ⟨rfl, hp2_0⟩
  rcases hp2_0 with ⟨rfl, hp2_0⟩ | ⟨rfl, hp2_0⟩
  · skip
    refine w_ine (by omega) (fun h => absurd h (by omega)) (fun _ => ?_)
    refine w_goto ?_
    refine w_step rfl ?_
    refine w_push kc_m1000000001 ?_
    refine w_retI rfl ?_
    exact ⟨ok, fr, (by omega), (by omega)⟩
  refine w_ine (by omega) (fun _ => ?_) (fun h => absurd (by omega) h)
  refine w_step rfl ?_
  refine w_aload rfl ?_
  refine w_getR (g_68_26 _) ?_
  refine w_iload rfl ?_
  refine w_iald (i := (k).toNat) (ai_83 _) (by omega) (by omega) (ae_83 _) ok (fun z3 hz3 hl3 hh3 => ?_)
  refine w_ige (by omega) (fun h4 => ?_) (fun h4 => ?_)
  · skip
    refine w_step rfl ?_
    refine w_push kc_0 ?_
    refine w_istore (lv' := [some (.ref 68), some (.int (jI k)), some (.int (jI w)), some (.int (jI 0)), none, none, none, none, none]) rfl ?_
    refine w_aload rfl ?_
    refine w_iload rfl ?_
    refine w_push kc_0 ?_
    refine w_callV2L (oj_68 _).choose_spec rfl (c_X9_offBy ok q0 (by omega) (by omega) (by omega) (by omega)) ?_
    rintro z5 t5 ⟨ok5, fq5⟩
    have fr5 := fr.then fq5 (by simp)
    have wf5 := q0.fr fq5 (by simp)
    refine w_lstore (lv' := [some (.ref 68), some (.int (jI k)), some (.int (jI w)), some (.int (jI 0)), some (.long z5), none, none, none, none]) rfl ?_
    refine w_push kc_1 ?_
    refine w_istore (lv' := [some (.ref 68), some (.int (jI k)), some (.int (jI w)), some (.int (jI 0)), some (.long z5), none, some (.int (jI 1)), none, none]) rfl ?_
    refine w_goto ?_
    have key4 : ∀ (n4 M4 : Nat) (best : Int) (least : Int64) (r : Int) (o7 : Option Int64) (t6 : TS), OK t6 → Fr [(81, 100), (82, 100)] t t6 → WF t6 69 → (0 ≤ best) → (best ≤ 4) → (1 ≤ r) → (r ≤ 4) → 4 - r < (n4 : Int) → 60 * n4 + (1000) ≤ M4 → Rn (bX9_seen (EX FU (d + 5))) M4 4 [some (.ref 68), some (.int (jI k)), some (.int (jI w)), some (.int (jI best)), some (.long least), none, some (.int (jI r)), dl o7, none] [] (mk t6) (PI (fun z t' => OK t' ∧ Fr [(81, 100), (82, 100)] t t' ∧ (-2147483648 ≤ z) ∧ (z ≤ 2147483647))) := by
      intro n4
      induction n4 with
      | zero => intro M4 best least r o7 t6 ok6 fr6 wf6 i4_0 i4_1 i4_2 i4_3 v4 f4; exfalso; omega
      | succ n4 ih4 =>
        intro M4 best least r o7 t6 ok6 fr6 wf6 i4_0 i4_1 i4_2 i4_3 v4 f4
        obtain ⟨M4, rfl⟩ : ∃ m, M4 = m + 60 := ⟨M4 - 60, by omega⟩
        refine w_step rfl ?_
        refine w_iload rfl ?_
        refine w_push kc_4 ?_
        refine w_cge (by omega) (fun h7 => ?_) (fun h7 => ?_)
        · skip
          refine w_step rfl ?_
          refine w_iload rfl ?_
          refine w_ine (by omega) (fun h8 => ?_) (fun h8 => ?_)
          · skip
            refine w_step rfl ?_
            refine w_lload rfl ?_
            refine w_l2i (fun z9 hl9 hh9 => ?_)
            refine w_goto ?_
            refine w_step rfl ?_
            refine w_retI rfl ?_
            exact ⟨ok6, fr6, (by omega), (by omega)⟩
          refine w_iload rfl ?_
          refine w_goto ?_
          refine w_step rfl ?_
          refine w_retI rfl ?_
          exact ⟨ok6, fr6, (by omega), (by omega)⟩
        refine w_aload rfl ?_
        refine w_iload rfl ?_
        refine w_iload rfl ?_
        refine w_callV2L (oj_68 _).choose_spec rfl (c_X9_offBy ok6 wf6 (by omega) (by omega) (by omega) (by omega)) ?_
        rintro z10 t10 ⟨ok10, fq10⟩
        have fr10 := fr6.then fq10 (by simp)
        have wf10 := wf6.fr fq10 (by simp)
        refine w_lstore (lv' := [some (.ref 68), some (.int (jI k)), some (.int (jI w)), some (.int (jI best)), some (.long least), none, some (.int (jI r)), some (.long z10), none]) rfl ?_
        refine w_lload rfl ?_
        refine w_lload rfl ?_
        refine w_lcmp (fun z11 hl11 hh11 => ?_)
        refine w_ige (by omega) (fun h12 => ?_) (fun h12 => ?_)
        · skip
          refine w_step rfl ?_
          refine w_iload rfl ?_
          refine w_goto ?_
          refine w_step rfl ?_
          refine w_istore (lv' := [some (.ref 68), some (.int (jI k)), some (.int (jI w)), some (.int (jI best)), some (.long least), none, some (.int (jI r)), some (.long z10), none]) rfl ?_
          refine w_lload rfl ?_
          refine w_lload rfl ?_
          refine w_lcmp (fun z13 hl13 hh13 => ?_)
          refine w_ige (by omega) (fun h14 => ?_) (fun h14 => ?_)
          · skip
            refine w_step rfl ?_
            refine w_lload rfl ?_
            refine w_goto ?_
            refine w_step rfl ?_
            refine w_lstore (lv' := [some (.ref 68), some (.int (jI k)), some (.int (jI w)), some (.int (jI best)), some (.long least), none, some (.int (jI r)), some (.long z10), none]) rfl ?_
            refine w_iinc (lv' := [some (.ref 68), some (.int (jI k)), some (.int (jI w)), some (.int (jI best)), some (.long least), none, some (.int (jI (r + 1))), some (.long z10), none]) kc_1 rfl rfl ?_
            refine w_goto ?_
            exact ih4 _ best least (r + 1) (some z10) t10 ok10 fr10 wf10 (by omega) (by omega) (by omega) (by omega) (by omega) (by omega)
          refine w_lload rfl ?_
          refine w_goto ?_
          refine w_step rfl ?_
          refine w_lstore (lv' := [some (.ref 68), some (.int (jI k)), some (.int (jI w)), some (.int (jI best)), some (.long z10), none, some (.int (jI r)), some (.long z10), none]) rfl ?_
          refine w_iinc (lv' := [some (.ref 68), some (.int (jI k)), some (.int (jI w)), some (.int (jI best)), some (.long z10), none, some (.int (jI (r + 1))), some (.long z10), none]) kc_1 rfl rfl ?_
          refine w_goto ?_
          exact ih4 _ best z10 (r + 1) (some z10) t10 ok10 fr10 wf10 (by omega) (by omega) (by omega) (by omega) (by omega) (by omega)
        refine w_iload rfl ?_
        refine w_goto ?_
        refine w_step rfl ?_
        refine w_istore (lv' := [some (.ref 68), some (.int (jI k)), some (.int (jI w)), some (.int (jI r)), some (.long least), none, some (.int (jI r)), some (.long z10), none]) rfl ?_
        refine w_lload rfl ?_
        refine w_lload rfl ?_
        refine w_lcmp (fun z15 hl15 hh15 => ?_)
        refine w_ige (by omega) (fun h16 => ?_) (fun h16 => ?_)
        · skip
          refine w_step rfl ?_
          refine w_lload rfl ?_
          refine w_goto ?_
          refine w_step rfl ?_
          refine w_lstore (lv' := [some (.ref 68), some (.int (jI k)), some (.int (jI w)), some (.int (jI r)), some (.long least), none, some (.int (jI r)), some (.long z10), none]) rfl ?_
          refine w_iinc (lv' := [some (.ref 68), some (.int (jI k)), some (.int (jI w)), some (.int (jI r)), some (.long least), none, some (.int (jI (r + 1))), some (.long z10), none]) kc_1 rfl rfl ?_
          refine w_goto ?_
          exact ih4 _ r least (r + 1) (some z10) t10 ok10 fr10 wf10 (by omega) (by omega) (by omega) (by omega) (by omega) (by omega)
        refine w_lload rfl ?_
        refine w_goto ?_
        refine w_step rfl ?_
        refine w_lstore (lv' := [some (.ref 68), some (.int (jI k)), some (.int (jI w)), some (.int (jI r)), some (.long z10), none, some (.int (jI r)), some (.long z10), none]) rfl ?_
        refine w_iinc (lv' := [some (.ref 68), some (.int (jI k)), some (.int (jI w)), some (.int (jI r)), some (.long z10), none, some (.int (jI (r + 1))), some (.long z10), none]) kc_1 rfl rfl ?_
        refine w_goto ?_
        exact ih4 _ r z10 (r + 1) (some z10) t10 ok10 fr10 wf10 (by omega) (by omega) (by omega) (by omega) (by omega) (by omega)
    exact key4 5 _ 0 z5 1 none t5 ok5 fr5 wf5 (by omega) (by omega) (by omega) (by omega) (by omega) (by omega)
  refine w_push kc_m1000000011 ?_
  refine w_retI rfl ?_
  exact ⟨ok, fr, (by omega), (by omega)⟩
