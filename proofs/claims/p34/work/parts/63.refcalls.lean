theorem comes_e {t u : TS} {c : Nat} {v : Int} (hc : 29 ≤ c ∧ c ≤ 31) (h0 : tA u 69 (c + 5 * (tA t 69 1).toNat) = v) (h1 : ∀ i, ¬ i = 1 → (i < 29 + 5 * (tA t 69 1).toNat ∨ 34 + 5 * (tA t 69 1).toNat ≤ i) → tA u 69 i = tA t 69 i) : ∀ m : Nat, tA u 69 (c + 5 * m) = if m = (tA t 69 1).toNat then v else tA t 69 (c + 5 * m) := by
  intro m
  by_cases e : m = (tA t 69 1).toNat
  · rw [if_pos e, e, h0]
  · rw [if_neg e]
    exact h1 _ (by omega) (by omega)
set_option maxRecDepth 100000 in
set_option maxHeartbeats 4000000 in
theorem c_X9_stone {d : Nat} {t : TS} {k l r : Int}  (ok : OK t) (q0 : -2147483648 ≤ k) (q1 : k ≤ 2147483647) (q2 : -2147483648 ≤ l) (q3 : l ≤ 2147483647) (q4 : -2147483648 ≤ r) (q5 : r ≤ 2147483647) : CI (EX FU (d + 2)) 138 [.ref 68, .int (jI k), .int (jI l), .int (jI r)] (mk t) (fun z t' => OK t' ∧ Fr [(69, 100)] t t' ∧ (((¬ (0 ≤ k ∧ k ≤ 5 ∧ 0 ≤ l ∧ l ≤ 6 ∧ 0 ≤ r ∧ r ≤ 6)) ∧ z = (-1000000001) ∧ t' = t) ∨ ((0 ≤ k ∧ k ≤ 5 ∧ 0 ≤ l ∧ l ≤ 6 ∧ 0 ≤ r ∧ r ≤ 6) ∧ (tA t 69 1 = 12) ∧ z = (-1000000003) ∧ t' = t) ∨ ((0 ≤ k ∧ k ≤ 5 ∧ 0 ≤ l ∧ l ≤ 6 ∧ 0 ≤ r ∧ r ≤ 6) ∧ (tA t 69 1 < 12) ∧ z = tA t 69 1 ∧ (tA t' 69 1 = tA t 69 1 + 1) ∧ (tA t' 69 (29 + 5 * (tA t 69 1).toNat) = k) ∧ (tA t' 69 (30 + 5 * (tA t 69 1).toNat) = l) ∧ (tA t' 69 (31 + 5 * (tA t 69 1).toNat) = r) ∧ (∀ i, ¬ i = 1 → (i < 29 + 5 * (tA t 69 1).toNat ∨ 34 + 5 * (tA t 69 1).toNat ≤ i) → tA t' 69 i = tA t 69 i)))) := by
  refine CI_ent (d := d + 1) (Bk := bX9_stone) (nL := 4) rfl rfl rfl (Nat.le_of_ble_eq_true rfl) ?_
  show Rn _ 1000000 0 [some (.ref 68), some (.int (jI k)), some (.int (jI l)), some (.int (jI r))] [] _ _
  have fr : Fr [(69, 100)] t t := Fr.rf _ _
  have hn0 := (ok.a (ax_69 nr_1)).1
  have hn1 := (ok.a (ax_69 nr_1)).2
  refine w_step rfl ?_
  refine w_iload rfl ?_
  refine w_push kc_0 ?_
  refine w_push kc_5 ?_
  refine w_callS3I rfl (c_X9_in ok (by omega) (by omega) (by omega) (by omega) (by omega) (by omega)) ?_
  rintro z1 t1 ⟨rfl, hp1_0⟩
  rcases hp1_0 with ⟨rfl, hp1_0⟩ | ⟨rfl, hp1_0⟩
  · skip
    refine w_ieq (by omega) (fun _ => ?_) (fun h => absurd (by omega) h)
    refine w_step rfl ?_
    refine w_push kc_m1000000001 ?_
    refine w_retI rfl ?_
    exact ⟨ok, fr, (by first | (exact Or.inl ⟨by omega, by first | omega | (subst_vars; rfl), rfl⟩) | (exact Or.inr (Or.inl ⟨by omega, by omega, by first | omega | (subst_vars; rfl), rfl⟩)) | (exact Or.inr (Or.inr (⟨by omega, by omega, by first | omega | (subst_vars; rfl), e1, e2, e3, e4, e5⟩))))⟩
  refine w_ieq (by omega) (fun h => absurd h (by omega)) (fun _ => ?_)
  refine w_iload rfl ?_
  refine w_push kc_0 ?_
  refine w_push kc_6 ?_
  refine w_callS3I rfl (c_X9_in ok (by omega) (by omega) (by omega) (by omega) (by omega) (by omega)) ?_
  rintro z2 t2 ⟨rfl, hp2_0⟩
  rcases hp2_0 with ⟨rfl, hp2_0⟩ | ⟨rfl, hp2_0⟩
  · skip
    refine w_ieq (by omega) (fun _ => ?_) (fun h => absurd (by omega) h)
    refine w_step rfl ?_
    refine w_push kc_m1000000001 ?_
    refine w_retI rfl ?_
    exact ⟨ok, fr, (by first | (exact Or.inl ⟨by omega, by first | omega | (subst_vars; rfl), rfl⟩) | (exact Or.inr (Or.inl ⟨by omega, by omega, by first | omega | (subst_vars; rfl), rfl⟩)) | (exact Or.inr (Or.inr (⟨by omega, by omega, by first | omega | (subst_vars; rfl), e1, e2, e3, e4, e5⟩))))⟩
  refine w_ieq (by omega) (fun h => absurd h (by omega)) (fun _ => ?_)
  refine w_iload rfl ?_
  refine w_push kc_0 ?_
  refine w_push kc_6 ?_
  refine w_callS3I rfl (c_X9_in ok (by omega) (by omega) (by omega) (by omega) (by omega) (by omega)) ?_
  rintro z3 t3 ⟨rfl, hp3_0⟩
  rcases hp3_0 with ⟨rfl, hp3_0⟩ | ⟨rfl, hp3_0⟩
  · skip
    refine w_ine (by omega) (fun h => absurd h (by omega)) (fun _ => ?_)
    refine w_goto ?_
    refine w_step rfl ?_
    refine w_push kc_m1000000001 ?_
    refine w_retI rfl ?_
    exact ⟨ok, fr, (by first | (exact Or.inl ⟨by omega, by first | omega | (subst_vars; rfl), rfl⟩) | (exact Or.inr (Or.inl ⟨by omega, by omega, by first | omega | (subst_vars; rfl), rfl⟩)) | (exact Or.inr (Or.inr (⟨by omega, by omega, by first | omega | (subst_vars; rfl), e1, e2, e3, e4, e5⟩))))⟩
  refine w_ine (by omega) (fun _ => ?_) (fun h => absurd (by omega) h)
  refine w_step rfl ?_
  refine w_aload rfl ?_
  refine w_getR (g_68_0 _) ?_
  refine w_push kc_1 ?_
  refine w_iald (i := 1) (ai_69 _) (by omega) (by omega) (ax_69 nr_1) ok (fun z4 hz4 hl4 hh4 => ?_)
  refine w_push kc_12 ?_
  refine w_cne (by omega) (fun h5 => ?_) (fun h5 => ?_)
  · skip
    refine w_step rfl ?_
    refine w_aload rfl ?_
    refine w_iload rfl ?_
    refine w_iload rfl ?_
    refine w_iload rfl ?_
    refine w_callV3I (oj_68 _).choose_spec rfl (c_X9_comes ok (by omega) (by omega) (by omega) (by omega) (by omega) (by omega) (by omega)) ?_
    rintro z6 t6 ⟨ok6, fq6, hp6_0, hp6_1, hp6_2, hp6_3, hp6_4, hp6_5⟩
    have fr6 := fr.then fq6 (by simp)
    have e0 := hp6_0
    have e1 := hp6_1
    have e2 := hp6_2
    have e3 := hp6_3
    have e4 := hp6_4
    have e5 := hp6_5
    refine w_goto ?_
    refine w_step rfl ?_
    refine w_retI rfl ?_
    exact ⟨ok6, fr6, (by first | (exact Or.inl ⟨by omega, by first | omega | (subst_vars; rfl), rfl⟩) | (exact Or.inr (Or.inl ⟨by omega, by omega, by first | omega | (subst_vars; rfl), rfl⟩)) | (exact Or.inr (Or.inr (⟨by omega, by omega, by first | omega | (subst_vars; rfl), e1, e2, e3, e4, e5⟩))))⟩
  refine w_push kc_m1000000003 ?_
  refine w_goto ?_
  refine w_step rfl ?_
  refine w_retI rfl ?_
  exact ⟨ok, fr, (by first | (exact Or.inl ⟨by omega, by first | omega | (subst_vars; rfl), rfl⟩) | (exact Or.inr (Or.inl ⟨by omega, by omega, by first | omega | (subst_vars; rfl), rfl⟩)) | (exact Or.inr (Or.inr (⟨by omega, by omega, by first | omega | (subst_vars; rfl), e1, e2, e3, e4, e5⟩))))⟩
set_option maxRecDepth 100000 in
set_option maxHeartbeats 4000000 in
theorem c_X9_told {d : Nat} {t : TS} {s w : Int}  (ok : OK t) (q0 : -2147483648 ≤ s) (q1 : s ≤ 2147483647) (q2 : -2147483648 ≤ w) (q3 : w ≤ 2147483647) : CI (EX FU (d + 3)) 141 [.ref 68, .int (jI s), .int (jI w)] (mk t) (fun z t' => t = t' ∧ (-2147483648 ≤ z) ∧ (z ≤ 2147483647)) := by
  refine CI_ent (d := d + 2) (Bk := bX9_told) (nL := 3) rfl rfl rfl (Nat.le_of_ble_eq_true rfl) ?_
  show Rn _ 1000000 0 [some (.ref 68), some (.int (jI s)), some (.int (jI w))] [] _ _
  have hn0 := (ok.a (ax_69 nr_1)).1
  have hn1 := (ok.a (ax_69 nr_1)).2
  refine w_step rfl ?_
  refine w_aload rfl ?_
  refine w_iload rfl ?_
  refine w_callV1I (oj_68 _).choose_spec rfl (c_X9_isStone ok (by omega) (by omega)) ?_
  rintro z1 t1 ⟨rfl, hp1_0⟩
  rcases hp1_0 with ⟨rfl, hp1_0⟩ | ⟨rfl, hp1_0⟩
  · skip
    refine w_ieq (by omega) (fun _ => ?_) (fun h => absurd (by omega) h)
    refine w_step rfl ?_
    refine w_push kc_m1000000001 ?_
    refine w_retI rfl ?_
    exact ⟨rfl, (by omega), (by omega)⟩
  refine w_ieq (by omega) (fun h => absurd h (by omega)) (fun _ => ?_)
  refine w_iload rfl ?_
  refine w_push kc_0 ?_
  refine w_push kc_6 ?_
  refine w_callS3I rfl (c_X9_in ok (by omega) (by omega) (by omega) (by omega) (by omega) (by omega)) ?_
  rintro z2 t2 ⟨rfl, hp2_0⟩
  rcases hp2_0 with ⟨rfl, hp2_0⟩ | ⟨rfl, hp2_0⟩
  · skip
    refine w_ine (by omega) (fun h => absurd h (by omega)) (fun _ => ?_)
    refine w_goto ?_
    refine w_step rfl ?_
    refine w_push kc_m1000000001 ?_
    refine w_retI rfl ?_
    exact ⟨rfl, (by omega), (by omega)⟩
  refine w_ine (by omega) (fun _ => ?_) (fun h => absurd (by omega) h)
  refine w_step rfl ?_
  refine w_iload rfl ?_
  refine w_push kc_5 ?_
  refine w_cge (by omega) (fun h3 => ?_) (fun h3 => ?_)
  · skip
    refine w_step rfl ?_
    refine w_iload rfl ?_
    refine w_push kc_5 ?_
    refine w_cne (by omega) (fun h4 => ?_) (fun h4 => ?_)
    · skip
      refine w_step rfl ?_
      refine w_aload rfl ?_
      refine w_iload rfl ?_
      refine w_callV1I (oj_68 _).choose_spec rfl (c_X9_worthOf ok (by omega) (by omega)) ?_
      rintro z5 t5 ⟨rfl, hp5_0, hp5_1, hp5_2⟩
      refine w_goto ?_
      refine w_step rfl ?_
      refine w_retI rfl ?_
      exact ⟨rfl, (by omega), (by omega)⟩
    refine w_aload rfl ?_
    refine w_iload rfl ?_
    refine w_callV1I (oj_68 _).choose_spec rfl (c_X9_heavyOf ok (by omega) (by omega)) ?_
    rintro z6 t6 ⟨rfl, hp6_0, hp6_1, hp6_2⟩
    refine w_goto ?_
    refine w_step rfl ?_
    refine w_retI rfl ?_
    exact ⟨rfl, (by omega), (by omega)⟩
  refine w_aload rfl ?_
  refine w_iload rfl ?_
  refine w_iload rfl ?_
  refine w_callV2I (oj_68 _).choose_spec rfl (c_X9_of ok (by omega) (by omega) (by omega) (by omega)) ?_
  rintro z7 t7 ⟨rfl, hp7_0, hp7_1, hp7_2⟩
  refine w_goto ?_
  refine w_step rfl ?_
  refine w_retI rfl ?_
  exact ⟨rfl, (by omega), (by omega)⟩
set_option maxRecDepth 100000 in
set_option maxHeartbeats 4000000 in
theorem c_X9_off {d : Nat} {t : TS} {s p u : Int}  (ok : OK t) (q0 : WF t 69) (q1 : -2147483648 ≤ s) (q2 : s ≤ 2147483647) (q3 : -2147483648 ≤ p) (q4 : p ≤ 2147483647) (q5 : -2147483648 ≤ u) (q6 : u ≤ 2147483647) : CI (EX FU (d + 5)) 145 [.ref 68, .int (jI s), .int (jI p), .int (jI u)] (mk t) (fun z t' => OK t' ∧ Fr [(81, 100), (82, 100)] t t' ∧ (-2147483648 ≤ z) ∧ (z ≤ 2147483647)) := by
  refine CI_ent (d := d + 4) (Bk := bX9_off) (nL := 4) rfl rfl rfl (Nat.le_of_ble_eq_true rfl) ?_
  show Rn _ 1000000 0 [some (.ref 68), some (.int (jI s)), some (.int (jI p)), some (.int (jI u))] [] _ _
  have fr : Fr [(81, 100), (82, 100)] t t := Fr.rf _ _
  have hn0 := (ok.a (ax_69 nr_1)).1
  have hn1 := (ok.a (ax_69 nr_1)).2
  refine w_step rfl ?_
  refine w_aload rfl ?_
  refine w_iload rfl ?_
  refine w_callV1I (oj_68 _).choose_spec rfl (c_X9_isStone ok (by omega) (by omega)) ?_
  rintro z1 t1 ⟨rfl, hp1_0⟩
  rcases hp1_0 with ⟨rfl, hp1_0⟩ | ⟨rfl, hp1_0⟩
  · skip
    refine w_ieq (by omega) (fun _ => ?_) (fun h => absurd (by omega) h)
    refine w_step rfl ?_
    refine w_push kc_m1000000001 ?_
    refine w_goto ?_
    refine w_step rfl ?_
    refine w_retI rfl ?_
    exact ⟨ok, fr, (by omega), (by omega)⟩
  refine w_ieq (by omega) (fun h => absurd h (by omega)) (fun _ => ?_)
  refine w_iload rfl ?_
  refine w_callS1I rfl (c_X9_isPlace ok (by omega) (by omega)) ?_
  rintro z2 t2 ⟨rfl, hp2_0⟩
  rcases hp2_0 with ⟨rfl, hp2_0⟩ | ⟨rfl, hp2_0⟩
  · skip
    refine w_ieq (by omega) (fun _ => ?_) (fun h => absurd (by omega) h)
    refine w_step rfl ?_
    refine w_push kc_m1000000001 ?_
    refine w_goto ?_
    refine w_step rfl ?_
    refine w_retI rfl ?_
    exact ⟨ok, fr, (by omega), (by omega)⟩
  refine w_ieq (by omega) (fun h => absurd h (by omega)) (fun _ => ?_)
  refine w_iload rfl ?_
  refine w_push kc_0 ?_
  refine w_push kc_1 ?_
  refine w_callS3I rfl (c_X9_in ok (by omega) (by omega) (by omega) (by omega) (by omega) (by omega)) ?_
  rintro z3 t3 ⟨rfl, hp3_0⟩
  rcases hp3_0 with ⟨rfl, hp3_0⟩ | ⟨rfl, hp3_0⟩
  · skip
    refine w_ieq (by omega) (fun _ => ?_) (fun h => absurd (by omega) h)
    refine w_step rfl ?_
    refine w_push kc_m1000000001 ?_
    refine w_goto ?_
    refine w_step rfl ?_
    refine w_retI rfl ?_
    exact ⟨ok, fr, (by omega), (by omega)⟩
  refine w_ieq (by omega) (fun h => absurd h (by omega)) (fun _ => ?_)
  refine w_aload rfl ?_
  refine w_iload rfl ?_
  refine w_iload rfl ?_
  refine w_iload rfl ?_
  refine w_callV3I (oj_68 _).choose_spec rfl (c_X9_offOf ok q0 (by omega) (by omega) (by omega) (by omega) (by omega) (by omega)) ?_
  rintro z4 t4 ⟨ok4, fq4, hp4_0, hp4_1⟩
  have fr4 := fr.then fq4 (by simp)
  have wf4 := q0.fr fq4 (by simp)
  refine w_goto ?_
  refine w_step rfl ?_
  refine w_retI rfl ?_
  exact ⟨ok4, fr4, (by omega), (by omega)⟩
set_option maxRecDepth 100000 in
set_option maxHeartbeats 4000000 in
theorem c_X9_as {d : Nat} {t : TS} {s k : Int}  (ok : OK t) (q0 : -2147483648 ≤ s) (q1 : s ≤ 2147483647) (q2 : -2147483648 ≤ k) (q3 : k ≤ 2147483647) : CI (EX FU (d + 3)) 147 [.ref 68, .int (jI s), .int (jI k)] (mk t) (fun z t' => t = t' ∧ (((¬ (0 ≤ s ∧ s ≤ tA t 69 1 - 1 ∧ 0 ≤ k ∧ k ≤ 5)) ∧ z = (-1000000001)) ∨ ((0 ≤ s ∧ s ≤ tA t 69 1 - 1 ∧ 0 ≤ k ∧ k ≤ 5) ∧ (tA t 69 (29 + 5 * s + 0).toNat = k ∨ k = 0 ∨ (k = 1 ∧ tA t 69 (29 + 5 * s + 0).toNat = 3) ∨ (k = 2 ∧ tA t 69 (29 + 5 * s + 0).toNat = 4)) ∧ z = tA t 69 (29 + 5 * s + 1).toNat) ∨ ((0 ≤ s ∧ s ≤ tA t 69 1 - 1 ∧ 0 ≤ k ∧ k ≤ 5) ∧ (¬ (tA t 69 (29 + 5 * s + 0).toNat = k ∨ k = 0 ∨ (k = 1 ∧ tA t 69 (29 + 5 * s + 0).toNat = 3) ∨ (k = 2 ∧ tA t 69 (29 + 5 * s + 0).toNat = 4))) ∧ z = (-1000000012)))) := by
  refine CI_ent (d := d + 2) (Bk := bX9_as) (nL := 3) rfl rfl rfl (Nat.le_of_ble_eq_true rfl) ?_
  show Rn _ 1000000 0 [some (.ref 68), some (.int (jI s)), some (.int (jI k))] [] _ _
  have hn0 := (ok.a (ax_69 nr_1)).1
  have hn1 := (ok.a (ax_69 nr_1)).2
  refine w_step rfl ?_
  refine w_aload rfl ?_
  refine w_iload rfl ?_
  refine w_callV1I (oj_68 _).choose_spec rfl (c_X9_isStone ok (by omega) (by omega)) ?_
  rintro z1 t1 ⟨rfl, hp1_0⟩
  rcases hp1_0 with ⟨rfl, hp1_0⟩ | ⟨rfl, hp1_0⟩
  · skip
    refine w_ieq (by omega) (fun _ => ?_) (fun h => absurd (by omega) h)
    refine w_step rfl ?_
    refine w_push kc_m1000000001 ?_
    refine w_retI rfl ?_
    exact ⟨rfl, (by first | (exact Or.inl ⟨by omega, by first | omega | (subst_vars; rfl)⟩) | (exact Or.inr (Or.inl ⟨by omega, by omega, by first | omega | (subst_vars; rfl)⟩)) | (exact Or.inr (Or.inr (⟨by omega, by omega, by first | omega | (subst_vars; rfl)⟩))))⟩
  refine w_ieq (by omega) (fun h => absurd h (by omega)) (fun _ => ?_)
  refine w_iload rfl ?_
  refine w_push kc_0 ?_
  refine w_push kc_5 ?_
  refine w_callS3I rfl (c_X9_in ok (by omega) (by omega) (by omega) (by omega) (by omega) (by omega)) ?_
  rintro z2 t2 ⟨rfl, hp2_0⟩
  rcases hp2_0 with ⟨rfl, hp2_0⟩ | ⟨rfl, hp2_0⟩
  · skip
    refine w_ine (by omega) (fun h => absurd h (by omega)) (fun _ => ?_)
    refine w_goto ?_
    refine w_step rfl ?_
    refine w_push kc_m1000000001 ?_
    refine w_retI rfl ?_
    exact ⟨rfl, (by first | (exact Or.inl ⟨by omega, by first | omega | (subst_vars; rfl)⟩) | (exact Or.inr (Or.inl ⟨by omega, by omega, by first | omega | (subst_vars; rfl)⟩)) | (exact Or.inr (Or.inr (⟨by omega, by omega, by first | omega | (subst_vars; rfl)⟩))))⟩
  refine w_ine (by omega) (fun _ => ?_) (fun h => absurd (by omega) h)
  refine w_step rfl ?_
  refine w_aload rfl ?_
  refine w_iload rfl ?_
  refine w_push kc_0 ?_
  refine w_callV2I (oj_68 _).choose_spec rfl (c_X9_of ok (by omega) (by omega) (by omega) (by omega)) ?_
  rintro z3 t3 ⟨rfl, hp3_0, hp3_1, hp3_2⟩
  have hr3 := of_r0 (s := s) ok (by omega)
  refine w_iload rfl ?_
  refine w_callS2I rfl (c_X9_isUnder ok (by omega) (by omega) (by omega) (by omega)) ?_
  rintro z4 t4 ⟨rfl, hp4_0⟩
  rcases hp4_0 with ⟨rfl, hp4_0⟩ | ⟨rfl, hp4_0⟩
  · skip
    refine w_ieq (by omega) (fun _ => ?_) (fun h => absurd (by omega) h)
    refine w_step rfl ?_
    refine w_push kc_m1000000012 ?_
    refine w_goto ?_
    refine w_step rfl ?_
    refine w_retI rfl ?_
    exact ⟨rfl, (by first | (exact Or.inl ⟨by omega, by first | omega | (subst_vars; rfl)⟩) | (exact Or.inr (Or.inl ⟨by omega, by omega, by first | omega | (subst_vars; rfl)⟩)) | (exact Or.inr (Or.inr (⟨by omega, by omega, by first | omega | (subst_vars; rfl)⟩))))⟩
  refine w_ieq (by omega) (fun h => absurd h (by omega)) (fun _ => ?_)
  refine w_aload rfl ?_
  refine w_iload rfl ?_
  refine w_push kc_1 ?_
  refine w_callV2I (oj_68 _).choose_spec rfl (c_X9_of ok (by omega) (by omega) (by omega) (by omega)) ?_
  rintro z5 t5 ⟨rfl, hp5_0, hp5_1, hp5_2⟩
  have hr5 := of_r1 (s := s) ok (by omega)
  refine w_goto ?_
  refine w_step rfl ?_
  refine w_retI rfl ?_
  exact ⟨rfl, (by first | (exact Or.inl ⟨by omega, by first | omega | (subst_vars; rfl)⟩) | (exact Or.inr (Or.inl ⟨by omega, by omega, by first | omega | (subst_vars; rfl)⟩)) | (exact Or.inr (Or.inr (⟨by omega, by omega, by first | omega | (subst_vars; rfl)⟩))))⟩
set_option maxRecDepth 100000 in
set_option maxHeartbeats 4000000 in
theorem c_X9_turns {d : Nat} {t : TS} {s k : Int}  (ok : OK t) (q0 : -2147483648 ≤ s) (q1 : s ≤ 2147483647) (q2 : -2147483648 ≤ k) (q3 : k ≤ 2147483647) : CI (EX FU (d + 3)) 148 [.ref 68, .int (jI s), .int (jI k)] (mk t) (fun z t' => OK t' ∧ Fr [(69, 100)] t t' ∧ (((¬ (0 ≤ s ∧ s ≤ tA t 69 1 - 1 ∧ 0 ≤ k ∧ k ≤ 5)) ∧ z = (-1000000001) ∧ t' = t) ∨ ((0 ≤ s ∧ s ≤ tA t 69 1 - 1 ∧ 0 ≤ k ∧ k ≤ 5) ∧ z = tA t 69 (29 + 5 * s).toNat ∧ (t' = uA t 69 (29 + 5 * s).toNat k)))) := by
  refine CI_ent (d := d + 2) (Bk := bX9_turns) (nL := 3) rfl rfl rfl (Nat.le_of_ble_eq_true rfl) ?_
  show Rn _ 1000000 0 [some (.ref 68), some (.int (jI s)), some (.int (jI k))] [] _ _
  have fr : Fr [(69, 100)] t t := Fr.rf _ _
  have hn0 := (ok.a (ax_69 nr_1)).1
  have hn1 := (ok.a (ax_69 nr_1)).2
  refine w_step rfl ?_
  refine w_aload rfl ?_
  refine w_iload rfl ?_
  refine w_callV1I (oj_68 _).choose_spec rfl (c_X9_isStone ok (by omega) (by omega)) ?_
  rintro z1 t1 ⟨rfl, hp1_0⟩
  rcases hp1_0 with ⟨rfl, hp1_0⟩ | ⟨rfl, hp1_0⟩
  · skip
    refine w_ieq (by omega) (fun _ => ?_) (fun h => absurd (by omega) h)
    refine w_step rfl ?_
    refine w_push kc_m1000000001 ?_
    refine w_goto ?_
    refine w_step rfl ?_
    refine w_retI rfl ?_
    exact ⟨ok, fr, (by first | (exact Or.inl ⟨by omega, by first | omega | (subst_vars; rfl), rfl⟩) | (exact Or.inr (⟨by omega, by first | omega | (subst_vars; rfl), eB⟩)))⟩
  refine w_ieq (by omega) (fun h => absurd h (by omega)) (fun _ => ?_)
  refine w_iload rfl ?_
  refine w_push kc_0 ?_
  refine w_push kc_5 ?_
  refine w_callS3I rfl (c_X9_in ok (by omega) (by omega) (by omega) (by omega) (by omega) (by omega)) ?_
  rintro z2 t2 ⟨rfl, hp2_0⟩
  rcases hp2_0 with ⟨rfl, hp2_0⟩ | ⟨rfl, hp2_0⟩
  · skip
    refine w_ieq (by omega) (fun _ => ?_) (fun h => absurd (by omega) h)
    refine w_step rfl ?_
    refine w_push kc_m1000000001 ?_
    refine w_goto ?_
    refine w_step rfl ?_
    refine w_retI rfl ?_
    exact ⟨ok, fr, (by first | (exact Or.inl ⟨by omega, by first | omega | (subst_vars; rfl), rfl⟩) | (exact Or.inr (⟨by omega, by first | omega | (subst_vars; rfl), eB⟩)))⟩
  refine w_ieq (by omega) (fun h => absurd h (by omega)) (fun _ => ?_)
  refine w_aload rfl ?_
  refine w_push kc_29 ?_
  refine w_push kc_5 ?_
  refine w_iload rfl ?_
  refine w_mul ?_
  refine w_add ?_
  refine w_iload rfl ?_
  refine w_callV2I (oj_68 _).choose_spec rfl (c_X9_becomes ok (by omega) (by omega) ⟨_, _, nr_S0 (s := s.toNat) (by omega), by omega, by omega⟩) ?_
  rintro z3 t3 ⟨ok3, fq3, hp3_0, hp3_1, hp3_2, hp3_3⟩
  have fr3 := fr.then fq3 (by simp)
  have eB := hp3_1
  refine w_goto ?_
  refine w_step rfl ?_
  refine w_retI rfl ?_
  exact ⟨ok3, fr3, (by first | (exact Or.inl ⟨by omega, by first | omega | (subst_vars; rfl), rfl⟩) | (exact Or.inr (⟨by omega, by first | omega | (subst_vars; rfl), eB⟩)))⟩
set_option maxRecDepth 100000 in
set_option maxHeartbeats 4000000 in
theorem c_X9_put {d : Nat} {t : TS} {s p u : Int}  (ok : OK t) (q0 : -2147483648 ≤ s) (q1 : s ≤ 2147483647) (q2 : -2147483648 ≤ p) (q3 : p ≤ 2147483647) (q4 : -2147483648 ≤ u) (q5 : u ≤ 2147483647) : CI (EX FU (d + 3)) 150 [.ref 68, .int (jI s), .int (jI p), .int (jI u)] (mk t) (fun z t' => OK t' ∧ Fr [(69, 100)] t t' ∧ (-2147483648 ≤ z) ∧ (z ≤ 2147483647) ∧ (Dq t t') ∧ (tA t' 69 0 = tA t 69 0) ∧ (tA t' 69 2 = tA t 69 2)) := by
  refine CI_ent (d := d + 2) (Bk := bX9_put) (nL := 5) rfl rfl rfl (Nat.le_of_ble_eq_true rfl) ?_
  show Rn _ 1000000 0 [some (.ref 68), some (.int (jI s)), some (.int (jI p)), some (.int (jI u)), none] [] _ _
  have fr : Fr [(69, 100)] t t := Fr.rf _ _
  have hn0 := (ok.a (ax_69 nr_1)).1
  have hn1 := (ok.a (ax_69 nr_1)).2
  have dq : Dq t t := Dq.rf t
  refine w_step rfl ?_
  refine w_aload rfl ?_
  refine w_iload rfl ?_
  refine w_callV1I (oj_68 _).choose_spec rfl (c_X9_isStone ok (by omega) (by omega)) ?_
  rintro z1 t1 ⟨rfl, hp1_0⟩
  rcases hp1_0 with ⟨rfl, hp1_0⟩ | ⟨rfl, hp1_0⟩
  · skip
    refine w_ieq (by omega) (fun _ => ?_) (fun h => absurd (by omega) h)
    refine w_step rfl ?_
    refine w_push kc_m1000000001 ?_
    refine w_retI rfl ?_
    exact ⟨ok, fr, (by omega), (by omega), dq, (by first | rfl | (rw [w2, tA_uA, if_neg (by omega), w1, tA_uA, if_neg (by omega)])), (by first | rfl | (rw [w2, tA_uA, if_neg (by omega), w1, tA_uA, if_neg (by omega)]))⟩
  refine w_ieq (by omega) (fun h => absurd h (by omega)) (fun _ => ?_)
  refine w_iload rfl ?_
  refine w_callS1I rfl (c_X9_isPlace ok (by omega) (by omega)) ?_
  rintro z2 t2 ⟨rfl, hp2_0⟩
  rcases hp2_0 with ⟨rfl, hp2_0⟩ | ⟨rfl, hp2_0⟩
  · skip
    refine w_ieq (by omega) (fun _ => ?_) (fun h => absurd (by omega) h)
    refine w_step rfl ?_
    refine w_push kc_m1000000001 ?_
    refine w_retI rfl ?_
    exact ⟨ok, fr, (by omega), (by omega), dq, (by first | rfl | (rw [w2, tA_uA, if_neg (by omega), w1, tA_uA, if_neg (by omega)])), (by first | rfl | (rw [w2, tA_uA, if_neg (by omega), w1, tA_uA, if_neg (by omega)]))⟩
  refine w_ieq (by omega) (fun h => absurd h (by omega)) (fun _ => ?_)
  refine w_iload rfl ?_
  refine w_push kc_0 ?_
  refine w_push kc_1 ?_
  refine w_callS3I rfl (c_X9_in ok (by omega) (by omega) (by omega) (by omega) (by omega) (by omega)) ?_
  rintro z3 t3 ⟨rfl, hp3_0⟩
  rcases hp3_0 with ⟨rfl, hp3_0⟩ | ⟨rfl, hp3_0⟩
  · skip
    refine w_ine (by omega) (fun h => absurd h (by omega)) (fun _ => ?_)
    refine w_goto ?_
    refine w_step rfl ?_
    refine w_push kc_m1000000001 ?_
    refine w_retI rfl ?_
    exact ⟨ok, fr, (by omega), (by omega), dq, (by first | rfl | (rw [w2, tA_uA, if_neg (by omega), w1, tA_uA, if_neg (by omega)])), (by first | rfl | (rw [w2, tA_uA, if_neg (by omega), w1, tA_uA, if_neg (by omega)]))⟩
  refine w_ine (by omega) (fun _ => ?_) (fun h => absurd (by omega) h)
  refine w_step rfl ?_
  refine w_aload rfl ?_
  refine w_iload rfl ?_
  refine w_callV1I (oj_68 _).choose_spec rfl (c_X9_holder ok (by omega) (by omega)) ?_
  rintro z4 t4 ⟨rfl, hp4_0, hp4_1⟩
  refine w_istore (lv' := [some (.ref 68), some (.int (jI s)), some (.int (jI p)), some (.int (jI u)), some (.int (jI z4))]) rfl ?_
  refine w_iload rfl ?_
  refine w_ilt (by omega) (fun h5 => ?_) (fun h5 => ?_)
  · skip
    refine w_step rfl ?_
    refine w_aload rfl ?_
    refine w_getR (g_68_0 _) ?_
    refine w_push kc_29 ?_
    refine w_push kc_5 ?_
    refine w_iload rfl ?_
    refine w_mul ?_
    refine w_add ?_
    refine w_push kc_4 ?_
    refine w_add ?_
    refine w_iload rfl ?_
    refine w_iast (i := (((29 + (5 * s)) + 4)).toNat) (ai_69 _) rfl (by omega) (by omega) (ax_69 (nr_S4 (s := s.toNat) (by omega))) ok (by omega) (fun t6 ht6 ok6 => ?_)
    have fr6 := fr.uA ht6 (by simp)
    have dq6 := dq.u69 ht6 (by omega)
    have w1 := ht6
    refine w_aload rfl ?_
    refine w_push kc_29 ?_
    refine w_push kc_5 ?_
    refine w_iload rfl ?_
    refine w_mul ?_
    refine w_add ?_
    refine w_push kc_3 ?_
    refine w_add ?_
    refine w_iload rfl ?_
    refine w_callV2I (oj_68 _).choose_spec rfl (c_X9_becomes ok6 (by omega) (by omega) ⟨_, _, nr_S3 (s := s.toNat) (by omega), by omega, by omega⟩) ?_
    rintro z7 t7 ⟨ok7, fq7, hp7_0, hp7_1, hp7_2, hp7_3⟩
    have fr7 := fr6.then fq7 (by simp)
    have dq7 := dq6.u69 hp7_1 (by omega)
    have w2 := hp7_1
    refine w_retI rfl ?_
    exact ⟨ok7, fr7, (by omega), (by omega), dq7, (by first | rfl | (rw [w2, tA_uA, if_neg (by omega), w1, tA_uA, if_neg (by omega)])), (by first | rfl | (rw [w2, tA_uA, if_neg (by omega), w1, tA_uA, if_neg (by omega)]))⟩
  refine w_iload rfl ?_
  refine w_iload rfl ?_
  refine w_ceq (by omega) (fun h8 => ?_) (fun h8 => ?_)
  · skip
    refine w_step rfl ?_
    refine w_aload rfl ?_
    refine w_getR (g_68_0 _) ?_
    refine w_push kc_29 ?_
    refine w_push kc_5 ?_
    refine w_iload rfl ?_
    refine w_mul ?_
    refine w_add ?_
    refine w_push kc_4 ?_
    refine w_add ?_
    refine w_iload rfl ?_
    refine w_iast (i := (((29 + (5 * s)) + 4)).toNat) (ai_69 _) rfl (by omega) (by omega) (ax_69 (nr_S4 (s := s.toNat) (by omega))) ok (by omega) (fun t9 ht9 ok9 => ?_)
    have fr9 := fr.uA ht9 (by simp)
    have dq9 := dq.u69 ht9 (by omega)
    have w1 := ht9
    refine w_aload rfl ?_
    refine w_push kc_29 ?_
    refine w_push kc_5 ?_
    refine w_iload rfl ?_
    refine w_mul ?_
    refine w_add ?_
    refine w_push kc_3 ?_
    refine w_add ?_
    refine w_iload rfl ?_
    refine w_callV2I (oj_68 _).choose_spec rfl (c_X9_becomes ok9 (by omega) (by omega) ⟨_, _, nr_S3 (s := s.toNat) (by omega), by omega, by omega⟩) ?_
    rintro z10 t10 ⟨ok10, fq10, hp10_0, hp10_1, hp10_2, hp10_3⟩
    have fr10 := fr9.then fq10 (by simp)
    have dq10 := dq9.u69 hp10_1 (by omega)
    have w2 := hp10_1
    refine w_retI rfl ?_
    exact ⟨ok10, fr10, (by omega), (by omega), dq10, (by first | rfl | (rw [w2, tA_uA, if_neg (by omega), w1, tA_uA, if_neg (by omega)])), (by first | rfl | (rw [w2, tA_uA, if_neg (by omega), w1, tA_uA, if_neg (by omega)]))⟩
  refine w_push kc_m1000000002 ?_
  refine w_retI rfl ?_
  exact ⟨ok, fr, (by omega), (by omega), dq, (by first | rfl | (rw [w2, tA_uA, if_neg (by omega), w1, tA_uA, if_neg (by omega)])), (by first | rfl | (rw [w2, tA_uA, if_neg (by omega), w1, tA_uA, if_neg (by omega)]))⟩
set_option maxRecDepth 100000 in
set_option maxHeartbeats 4000000 in
theorem c_X9_box {d : Nat} {t : TS} {s : Int}  (ok : OK t) (q0 : -2147483648 ≤ s) (q1 : s ≤ 2147483647) : CI (EX FU (d + 3)) 151 [.ref 68, .int (jI s)] (mk t) (fun z t' => OK t' ∧ Fr [(69, 100)] t t' ∧ (-2147483648 ≤ z) ∧ (z ≤ 2147483647) ∧ (Dq t t') ∧ (tA t' 69 0 = tA t 69 0) ∧ (tA t' 69 2 = tA t 69 2)) := by
  refine CI_ent (d := d + 2) (Bk := bX9_box) (nL := 2) rfl rfl rfl (Nat.le_of_ble_eq_true rfl) ?_
  show Rn _ 1000000 0 [some (.ref 68), some (.int (jI s))] [] _ _
  have fr : Fr [(69, 100)] t t := Fr.rf _ _
  have hn0 := (ok.a (ax_69 nr_1)).1
  have hn1 := (ok.a (ax_69 nr_1)).2
  have dq : Dq t t := Dq.rf t
  refine w_step rfl ?_
  refine w_aload rfl ?_
  refine w_iload rfl ?_
  refine w_callV1I (oj_68 _).choose_spec rfl (c_X9_isStone ok (by omega) (by omega)) ?_
  rintro z1 t1 ⟨rfl, hp1_0⟩
  rcases hp1_0 with ⟨rfl, hp1_0⟩ | ⟨rfl, hp1_0⟩
  · skip
    refine w_ieq (by omega) (fun _ => ?_) (fun h => absurd (by omega) h)
    refine w_step rfl ?_
    refine w_push kc_m1000000001 ?_
    refine w_goto ?_
    refine w_step rfl ?_
    refine w_retI rfl ?_
    exact ⟨ok, fr, (by omega), (by omega), dq, (by first | rfl | (rw [w2, tA_uA, if_neg (by omega)])), (by first | rfl | (rw [w2, tA_uA, if_neg (by omega)]))⟩
  refine w_ieq (by omega) (fun h => absurd h (by omega)) (fun _ => ?_)
  refine w_aload rfl ?_
  refine w_push kc_29 ?_
  refine w_push kc_5 ?_
  refine w_iload rfl ?_
  refine w_mul ?_
  refine w_add ?_
  refine w_push kc_3 ?_
  refine w_add ?_
  refine w_push kc_12 ?_
  refine w_callV2I (oj_68 _).choose_spec rfl (c_X9_becomes ok (by omega) (by omega) ⟨_, _, nr_S3 (s := s.toNat) (by omega), by omega, by omega⟩) ?_
  rintro z2 t2 ⟨ok2, fq2, hp2_0, hp2_1, hp2_2, hp2_3⟩
  have fr2 := fr.then fq2 (by simp)
  have dq2 := dq.u69 hp2_1 (by omega)
  have w2 := hp2_1
  refine w_goto ?_
  refine w_step rfl ?_
  refine w_retI rfl ?_
  exact ⟨ok2, fr2, (by omega), (by omega), dq2, (by first | rfl | (rw [w2, tA_uA, if_neg (by omega)])), (by first | rfl | (rw [w2, tA_uA, if_neg (by omega)]))⟩
set_option maxRecDepth 100000 in
set_option maxHeartbeats 4000000 in
theorem c_X9_want {d : Nat} {t : TS} {c v : Int}  (ok : OK t) (q0 : -2147483648 ≤ c) (q1 : c ≤ 2147483647) (q2 : -2147483648 ≤ v) (q3 : v ≤ 2147483647) : CI (EX FU (d + 2)) 152 [.ref 68, .int (jI c), .int (jI v)] (mk t) (fun z t' => OK t' ∧ Fr [(69, 100)] t t' ∧ (((¬ (0 ≤ c ∧ c ≤ 23 ∧ 0 ≤ v ∧ v ≤ 99)) ∧ z = (-1000000001) ∧ t' = t) ∨ ((0 ≤ c ∧ c ≤ 23 ∧ 0 ≤ v ∧ v ≤ 99) ∧ z = tA t 69 (5 + c).toNat ∧ (t' = uA t 69 (5 + c).toNat v)))) := by
  refine CI_ent (d := d + 1) (Bk := bX9_want) (nL := 3) rfl rfl rfl (Nat.le_of_ble_eq_true rfl) ?_
  show Rn _ 1000000 0 [some (.ref 68), some (.int (jI c)), some (.int (jI v))] [] _ _
  have fr : Fr [(69, 100)] t t := Fr.rf _ _
  have hn0 := (ok.a (ax_69 nr_1)).1
  have hn1 := (ok.a (ax_69 nr_1)).2
  refine w_step rfl ?_
  refine w_iload rfl ?_
  refine w_push kc_0 ?_
  refine w_push kc_23 ?_
  refine w_callS3I rfl (c_X9_in ok (by omega) (by omega) (by omega) (by omega) (by omega) (by omega)) ?_
  rintro z1 t1 ⟨rfl, hp1_0⟩
  rcases hp1_0 with ⟨rfl, hp1_0⟩ | ⟨rfl, hp1_0⟩
  · skip
    refine w_ieq (by omega) (fun _ => ?_) (fun h => absurd (by omega) h)
    refine w_step rfl ?_
    refine w_push kc_m1000000001 ?_
    refine w_goto ?_
    refine w_step rfl ?_
    refine w_retI rfl ?_
    exact ⟨ok, fr, (by first | (exact Or.inl ⟨by omega, by first | omega | (subst_vars; rfl), rfl⟩) | (exact Or.inr (⟨by omega, by first | omega | (subst_vars; rfl), eB⟩)))⟩
  refine w_ieq (by omega) (fun h => absurd h (by omega)) (fun _ => ?_)
  refine w_iload rfl ?_
  refine w_push kc_0 ?_
  refine w_push kc_99 ?_
  refine w_callS3I rfl (c_X9_in ok (by omega) (by omega) (by omega) (by omega) (by omega) (by omega)) ?_
  rintro z2 t2 ⟨rfl, hp2_0⟩
  rcases hp2_0 with ⟨rfl, hp2_0⟩ | ⟨rfl, hp2_0⟩
  · skip
    refine w_ieq (by omega) (fun _ => ?_) (fun h => absurd (by omega) h)
    refine w_step rfl ?_
    refine w_push kc_m1000000001 ?_
    refine w_goto ?_
    refine w_step rfl ?_
    refine w_retI rfl ?_
    exact ⟨ok, fr, (by first | (exact Or.inl ⟨by omega, by first | omega | (subst_vars; rfl), rfl⟩) | (exact Or.inr (⟨by omega, by first | omega | (subst_vars; rfl), eB⟩)))⟩
  refine w_ieq (by omega) (fun h => absurd h (by omega)) (fun _ => ?_)
  refine w_aload rfl ?_
  refine w_push kc_5 ?_
  refine w_iload rfl ?_
  refine w_add ?_
  refine w_iload rfl ?_
  refine w_callV2I (oj_68 _).choose_spec rfl (c_X9_becomes ok (by omega) (by omega) ⟨_, _, nr_W (by omega), by omega, by omega⟩) ?_
  rintro z3 t3 ⟨ok3, fq3, hp3_0, hp3_1, hp3_2, hp3_3⟩
  have fr3 := fr.then fq3 (by simp)
  have eB := hp3_1
  refine w_goto ?_
  refine w_step rfl ?_
  refine w_retI rfl ?_
  exact ⟨ok3, fr3, (by first | (exact Or.inl ⟨by omega, by first | omega | (subst_vars; rfl), rfl⟩) | (exact Or.inr (⟨by omega, by first | omega | (subst_vars; rfl), eB⟩)))⟩
set_option maxRecDepth 100000 in
set_option maxHeartbeats 4000000 in
theorem c_X9_wind {d : Nat} {t : TS} {v : Int}  (ok : OK t) (q0 : -2147483648 ≤ v) (q1 : v ≤ 2147483647) : CI (EX FU (d + 2)) 153 [.ref 68, .int (jI v)] (mk t) (fun z t' => OK t' ∧ Fr [(69, 100)] t t' ∧ (((¬ (0 ≤ v ∧ v ≤ 100)) ∧ z = (-1000000001) ∧ t' = t) ∨ ((0 ≤ v ∧ v ≤ 100) ∧ z = tA t 69 3 ∧ (t' = uA t 69 3 v)))) := by
  refine CI_ent (d := d + 1) (Bk := bX9_wind) (nL := 2) rfl rfl rfl (Nat.le_of_ble_eq_true rfl) ?_
  show Rn _ 1000000 0 [some (.ref 68), some (.int (jI v))] [] _ _
  have fr : Fr [(69, 100)] t t := Fr.rf _ _
  have hn0 := (ok.a (ax_69 nr_1)).1
  have hn1 := (ok.a (ax_69 nr_1)).2
  refine w_step rfl ?_
  refine w_iload rfl ?_
  refine w_push kc_0 ?_
  refine w_push kc_100 ?_
  refine w_callS3I rfl (c_X9_in ok (by omega) (by omega) (by omega) (by omega) (by omega) (by omega)) ?_
  rintro z1 t1 ⟨rfl, hp1_0⟩
  rcases hp1_0 with ⟨rfl, hp1_0⟩ | ⟨rfl, hp1_0⟩
  · skip
    refine w_ieq (by omega) (fun _ => ?_) (fun h => absurd (by omega) h)
    refine w_step rfl ?_
    refine w_push kc_m1000000001 ?_
    refine w_goto ?_
    refine w_step rfl ?_
    refine w_retI rfl ?_
    exact ⟨ok, fr, (by first | (exact Or.inl ⟨by omega, by first | omega | (subst_vars; rfl), rfl⟩) | (exact Or.inr (⟨by omega, eC, eB⟩)))⟩
  refine w_ieq (by omega) (fun h => absurd h (by omega)) (fun _ => ?_)
  refine w_aload rfl ?_
  refine w_push kc_3 ?_
  refine w_iload rfl ?_
  refine w_callV2I (oj_68 _).choose_spec rfl (c_X9_becomes ok (by omega) (by omega) ⟨_, _, nr_3, by omega, by omega⟩) ?_
  rintro z2 t2 ⟨ok2, fq2, hp2_0, hp2_1, hp2_2, hp2_3⟩
  have fr2 := fr.then fq2 (by simp)
  have eB := hp2_1
  have eC := hp2_0
  refine w_goto ?_
  refine w_step rfl ?_
  refine w_retI rfl ?_
  exact ⟨ok2, fr2, (by first | (exact Or.inl ⟨by omega, by first | omega | (subst_vars; rfl), rfl⟩) | (exact Or.inr (⟨by omega, eC, eB⟩)))⟩
set_option maxRecDepth 100000 in
set_option maxHeartbeats 4000000 in
theorem c_X9_seed {d : Nat} {t : TS} {v : Int}  (ok : OK t) (q0 : -2147483648 ≤ v) (q1 : v ≤ 2147483647) : CI (EX FU (d + 2)) 156 [.ref 68, .int (jI v)] (mk t) (fun z t' => OK t' ∧ Fr [(69, 100)] t t' ∧ (z = tA t 69 0) ∧ (t' = uA t 69 0 v)) := by
  refine CI_ent (d := d + 1) (Bk := bX9_seed) (nL := 2) rfl rfl rfl (Nat.le_of_ble_eq_true rfl) ?_
  show Rn _ 1000000 0 [some (.ref 68), some (.int (jI v))] [] _ _
  have fr : Fr [(69, 100)] t t := Fr.rf _ _
  have hn0 := (ok.a (ax_69 nr_1)).1
  have hn1 := (ok.a (ax_69 nr_1)).2
  refine w_step rfl ?_
  refine w_aload rfl ?_
  refine w_push kc_0 ?_
  refine w_iload rfl ?_
  refine w_callV2I (oj_68 _).choose_spec rfl (c_X9_becomes ok (by omega) (by omega) ⟨_, _, nr_0, by omega, by omega⟩) ?_
  rintro z1 t1 ⟨ok1, fq1, hp1_0, hp1_1, hp1_2, hp1_3⟩
  have fr1 := fr.then fq1 (by simp)
  have eB := hp1_1
  have eC := hp1_0
  refine w_retI rfl ?_
  exact ⟨ok1, fr1, eC, eB⟩
set_option maxRecDepth 100000 in
set_option maxHeartbeats 4000000 in
theorem c_X9_deal {d : Nat} {t : TS} {n : Int}  (ok : OK t) (q0 : -2147483648 ≤ n) (q1 : n ≤ 2147483647) : CI (EX FU (d + 2)) 155 [.ref 68, .int (jI n)] (mk t) (fun z t' => OK t' ∧ Fr [(69, 100)] t t' ∧ (((¬ (1 ≤ n ∧ n ≤ 12)) ∧ z = (-1000000001) ∧ t' = t) ∨ ((1 ≤ n ∧ n ≤ 12) ∧ z = min n (12 - tA t 69 1) ∧ (tA t' 69 1 = tA t 69 1 + min n (12 - tA t 69 1)) ∧ (tA t' 69 0 = dzF (min n (12 - tA t 69 1)).toNat (tA t 69 0)) ∧ (∀ m : Nat, tA t' 69 (29 + 5 * m) = if tA t 69 1 ≤ (m : Int) ∧ (m : Int) < tA t 69 1 + min n (12 - tA t 69 1) then kdF (tA t 69 0) (m - (tA t 69 1).toNat) else tA t 69 (29 + 5 * m)) ∧ (∀ m : Nat, tA t' 69 (30 + 5 * m) = if tA t 69 1 ≤ (m : Int) ∧ (m : Int) < tA t 69 1 + min n (12 - tA t 69 1) then ldF (tA t 69 0) (m - (tA t 69 1).toNat) else tA t 69 (30 + 5 * m)) ∧ (∀ m : Nat, tA t' 69 (31 + 5 * m) = if tA t 69 1 ≤ (m : Int) ∧ (m : Int) < tA t 69 1 + min n (12 - tA t 69 1) then rdF (tA t 69 0) (m - (tA t 69 1).toNat) else tA t 69 (31 + 5 * m)) ∧ (∀ i, ¬ i = 0 → ¬ i = 1 → (i < 29 ∨ 89 ≤ i) → tA t' 69 i = tA t 69 i)))) := by
  refine CI_ent (d := d + 1) (Bk := bX9_deal) (nL := 6) rfl rfl rfl (Nat.le_of_ble_eq_true rfl) ?_
  show Rn _ 1000000 0 [some (.ref 68), some (.int (jI n)), none, none, none, none] [] _ _
  have fr : Fr [(69, 100)] t t := Fr.rf _ _
  have hn0 := (ok.a (ax_69 nr_1)).1
  have hn1 := (ok.a (ax_69 nr_1)).2
  refine w_step rfl ?_
  refine w_iload rfl ?_
  refine w_push kc_1 ?_
  refine w_push kc_12 ?_
  refine w_callS3I rfl (c_X9_in ok (by omega) (by omega) (by omega) (by omega) (by omega) (by omega)) ?_
  rintro z1 t1 ⟨rfl, hp1_0⟩
  rcases hp1_0 with ⟨rfl, hp1_0⟩ | ⟨rfl, hp1_0⟩
  · skip
    refine w_ine (by omega) (fun h => absurd h (by omega)) (fun _ => ?_)
    refine w_push kc_m1000000001 ?_
    refine w_retI rfl ?_
    exact ⟨ok, fr, (by first | (exact Or.inl ⟨by omega, by first | omega | (subst_vars; rfl), rfl⟩) | (exact Or.inr (⟨by omega, by first | omega | (subst_vars; rfl), by omega, by have e : many = min n (12 - tA t 69 1) := (by omega); rw [← e]; exact i2_4, by have e : many = min n (12 - tA t 69 1) := (by omega); rw [← e]; exact i2_5, by have e : many = min n (12 - tA t 69 1) := (by omega); rw [← e]; exact i2_6, by have e : many = min n (12 - tA t 69 1) := (by omega); rw [← e]; exact i2_7, i2_8⟩)))⟩
  refine w_ine (by omega) (fun _ => ?_) (fun h => absurd (by omega) h)
  refine w_step rfl ?_
  refine w_push kc_0 ?_
  refine w_istore (lv' := [some (.ref 68), some (.int (jI n)), some (.int (jI 0)), none, none, none]) rfl ?_
  refine w_goto ?_
  have key2 : ∀ (n2 M2 : Nat) (many : Int) (o3 : Option Int) (o4 : Option Int) (o5 : Option Int) (t2 : TS), OK t2 → Fr [(69, 100)] t t2 → (0 ≤ many) → (many ≤ n) → (tA t2 69 1 = tA t 69 1 + many) → (tA t 69 1 + many ≤ 12 ∨ many = 0) → (tA t2 69 0 = dzF many.toNat (tA t 69 0)) → (∀ m : Nat, tA t2 69 (29 + 5 * m) = if tA t 69 1 ≤ (m : Int) ∧ (m : Int) < tA t 69 1 + many then kdF (tA t 69 0) (m - (tA t 69 1).toNat) else tA t 69 (29 + 5 * m)) → (∀ m : Nat, tA t2 69 (30 + 5 * m) = if tA t 69 1 ≤ (m : Int) ∧ (m : Int) < tA t 69 1 + many then ldF (tA t 69 0) (m - (tA t 69 1).toNat) else tA t 69 (30 + 5 * m)) → (∀ m : Nat, tA t2 69 (31 + 5 * m) = if tA t 69 1 ≤ (m : Int) ∧ (m : Int) < tA t 69 1 + many then rdF (tA t 69 0) (m - (tA t 69 1).toNat) else tA t 69 (31 + 5 * m)) → (∀ i, ¬ i = 0 → ¬ i = 1 → (i < 29 ∨ 89 ≤ i) → tA t2 69 i = tA t 69 i) → 12 - many < (n2 : Int) → 60 * n2 + (1000) ≤ M2 → Rn (bX9_deal (EX FU (d + 1))) M2 2 [some (.ref 68), some (.int (jI n)), some (.int (jI many)), dv o3, dv o4, dv o5] [] (mk t2) (PI (fun z t' => OK t' ∧ Fr [(69, 100)] t t' ∧ (((¬ (1 ≤ n ∧ n ≤ 12)) ∧ z = (-1000000001) ∧ t' = t) ∨ ((1 ≤ n ∧ n ≤ 12) ∧ z = min n (12 - tA t 69 1) ∧ (tA t' 69 1 = tA t 69 1 + min n (12 - tA t 69 1)) ∧ (tA t' 69 0 = dzF (min n (12 - tA t 69 1)).toNat (tA t 69 0)) ∧ (∀ m : Nat, tA t' 69 (29 + 5 * m) = if tA t 69 1 ≤ (m : Int) ∧ (m : Int) < tA t 69 1 + min n (12 - tA t 69 1) then kdF (tA t 69 0) (m - (tA t 69 1).toNat) else tA t 69 (29 + 5 * m)) ∧ (∀ m : Nat, tA t' 69 (30 + 5 * m) = if tA t 69 1 ≤ (m : Int) ∧ (m : Int) < tA t 69 1 + min n (12 - tA t 69 1) then ldF (tA t 69 0) (m - (tA t 69 1).toNat) else tA t 69 (30 + 5 * m)) ∧ (∀ m : Nat, tA t' 69 (31 + 5 * m) = if tA t 69 1 ≤ (m : Int) ∧ (m : Int) < tA t 69 1 + min n (12 - tA t 69 1) then rdF (tA t 69 0) (m - (tA t 69 1).toNat) else tA t 69 (31 + 5 * m)) ∧ (∀ i, ¬ i = 0 → ¬ i = 1 → (i < 29 ∨ 89 ≤ i) → tA t' 69 i = tA t 69 i))))) := by
    intro n2
    induction n2 with
    | zero => intro M2 many o3 o4 o5 t2 ok2 fr2 i2_0 i2_1 i2_2 i2_3 i2_4 i2_5 i2_6 i2_7 i2_8 v2 f2; exfalso; omega
    | succ n2 ih2 =>
      intro M2 many o3 o4 o5 t2 ok2 fr2 i2_0 i2_1 i2_2 i2_3 i2_4 i2_5 i2_6 i2_7 i2_8 v2 f2
      obtain ⟨M2, rfl⟩ : ∃ m, M2 = m + 60 := ⟨M2 - 60, by omega⟩
      refine w_step rfl ?_
      refine w_iload rfl ?_
      refine w_iload rfl ?_
      refine w_cge (by omega) (fun h3 => ?_) (fun h3 => ?_)
      · skip
        refine w_step rfl ?_
        refine w_iload rfl ?_
        refine w_retI rfl ?_
        exact ⟨ok2, fr2, (by first | (exact Or.inl ⟨by omega, by first | omega | (subst_vars; rfl), rfl⟩) | (exact Or.inr (⟨by omega, by first | omega | (subst_vars; rfl), by omega, by have e : many = min n (12 - tA t 69 1) := (by omega); rw [← e]; exact i2_4, by have e : many = min n (12 - tA t 69 1) := (by omega); rw [← e]; exact i2_5, by have e : many = min n (12 - tA t 69 1) := (by omega); rw [← e]; exact i2_6, by have e : many = min n (12 - tA t 69 1) := (by omega); rw [← e]; exact i2_7, i2_8⟩)))⟩
      refine w_aload rfl ?_
      refine w_getR (g_68_0 _) ?_
      refine w_push kc_1 ?_
      refine w_iald (i := 1) (ai_69 _) (by omega) (by omega) (ax_69 nr_1) ok2 (fun z4 hz4 hl4 hh4 => ?_)
      refine w_push kc_12 ?_
      refine w_cge (by omega) (fun h5 => ?_) (fun h5 => ?_)
      · skip
        refine w_step rfl ?_
        refine w_iload rfl ?_
        refine w_retI rfl ?_
        exact ⟨ok2, fr2, (by first | (exact Or.inl ⟨by omega, by first | omega | (subst_vars; rfl), rfl⟩) | (exact Or.inr (⟨by omega, by first | omega | (subst_vars; rfl), by omega, by have e : many = min n (12 - tA t 69 1) := (by omega); rw [← e]; exact i2_4, by have e : many = min n (12 - tA t 69 1) := (by omega); rw [← e]; exact i2_5, by have e : many = min n (12 - tA t 69 1) := (by omega); rw [← e]; exact i2_6, by have e : many = min n (12 - tA t 69 1) := (by omega); rw [← e]; exact i2_7, i2_8⟩)))⟩
      refine w_aload rfl ?_
      refine w_callV0I (oj_68 _).choose_spec rfl (c_X9_draw ok2) ?_
      rintro z6 t6 ⟨ok6, fq6, hp6_0, hp6_1, hp6_2, hp6_3⟩
      have fr6 := fr2.then fq6 (by simp)
      have e1 : tA t6 69 0 = znF (dzF many.toNat (tA t 69 0)) := by rw [hp6_0, tA_uA, if_pos ⟨rfl, rfl⟩, i2_4]
      have v1 : z6 = drF (znF (dzF many.toNat (tA t 69 0))) := by rw [hp6_1, i2_4]
      have a1 : ∀ i, ¬ i = 0 → tA t6 69 i = tA t2 69 i := fun i hi => by rw [hp6_0, tA_uA, if_neg (fun q => hi q.2)]
      refine w_push kc_6 ?_
      refine w_rem (by omega) ?_
      refine w_istore (lv' := [some (.ref 68), some (.int (jI n)), some (.int (jI many)), some (.int (jI (z6 % 6))), dv o4, dv o5]) rfl ?_
      refine w_aload rfl ?_
      refine w_callV0I (oj_68 _).choose_spec rfl (c_X9_draw ok6) ?_
      rintro z7 t7 ⟨ok7, fq7, hp7_0, hp7_1, hp7_2, hp7_3⟩
      have fr7 := fr6.then fq7 (by simp)
      have v2 : z7 = drF (znF (znF (dzF many.toNat (tA t 69 0)))) := by rw [hp7_1, e1]
      have e1 : tA t7 69 0 = znF (znF (dzF many.toNat (tA t 69 0))) := by rw [hp7_0, tA_uA, if_pos ⟨rfl, rfl⟩, e1]
      have a2 : ∀ i, ¬ i = 0 → tA t7 69 i = tA t2 69 i := fun i hi => by rw [hp7_0, tA_uA, if_neg (fun q => hi q.2)]; exact a1 i hi
      refine w_push kc_7 ?_
      refine w_rem (by omega) ?_
      refine w_istore (lv' := [some (.ref 68), some (.int (jI n)), some (.int (jI many)), some (.int (jI (z6 % 6))), some (.int (jI (z7 % 7))), dv o5]) rfl ?_
      refine w_aload rfl ?_
      refine w_iload rfl ?_
      refine w_iload rfl ?_
      refine w_aload rfl ?_
      refine w_callV0I (oj_68 _).choose_spec rfl (c_X9_draw ok7) ?_
      rintro z8 t8 ⟨ok8, fq8, hp8_0, hp8_1, hp8_2, hp8_3⟩
      have fr8 := fr7.then fq8 (by simp)
      have v3 : z8 = drF (znF (znF (znF (dzF many.toNat (tA t 69 0))))) := by rw [hp8_1, e1]
      have e1 : tA t8 69 0 = znF (znF (znF (dzF many.toNat (tA t 69 0)))) := by rw [hp8_0, tA_uA, if_pos ⟨rfl, rfl⟩, e1]
      have a3 : ∀ i, ¬ i = 0 → tA t8 69 i = tA t2 69 i := fun i hi => by rw [hp8_0, tA_uA, if_neg (fun q => hi q.2)]; exact a2 i hi
      have n3 := a3 1 (by decide)
      refine w_push kc_7 ?_
      refine w_rem (by omega) ?_
      refine w_callV3I (oj_68 _).choose_spec rfl (c_X9_comes ok8 (by omega) (by omega) (by omega) (by omega) (by omega) (by omega) (by omega)) ?_
      rintro z9 t9 ⟨ok9, fq9, hp9_0, hp9_1, hp9_2, hp9_3, hp9_4, hp9_5⟩
      have fr9 := fr8.then fq9 (by simp)
      have ez : tA t9 69 0 = dzF (many + 1).toNat (tA t 69 0) := by rw [hp9_5 0 (by decide) (by omega), e1, show (many + 1).toNat = many.toNat + 1 by omega]; rfl
      have en : tA t9 69 1 = tA t2 69 1 + 1 := by rw [hp9_1, n3]
      have e2 : ∀ m : Nat, tA t9 69 (29 + 5 * m) = if m = (tA t 69 1 + many).toNat then kdF (tA t 69 0) many.toNat else tA t2 69 (29 + 5 * m) := fun m => by rw [comes_e (c := 29) (by decide) hp9_2 hp9_5 m, n3, i2_2, a3 _ (by omega), v1]; rfl
      have e3 : ∀ m : Nat, tA t9 69 (30 + 5 * m) = if m = (tA t 69 1 + many).toNat then ldF (tA t 69 0) many.toNat else tA t2 69 (30 + 5 * m) := fun m => by rw [comes_e (c := 30) (by decide) hp9_3 hp9_5 m, n3, i2_2, a3 _ (by omega), v2]; rfl
      have e4 : ∀ m : Nat, tA t9 69 (31 + 5 * m) = if m = (tA t 69 1 + many).toNat then rdF (tA t 69 0) many.toNat else tA t2 69 (31 + 5 * m) := fun m => by rw [comes_e (c := 31) (by decide) hp9_4 hp9_5 m, n3, i2_2, a3 _ (by omega), v3]; rfl
      have eo : ∀ i, ¬ i = 0 → ¬ i = 1 → (i < 29 ∨ 89 ≤ i) → tA t9 69 i = tA t 69 i := fun i h0 h1 h2 => by rw [hp9_5 i h1 (by omega), a3 i h0]; exact i2_8 i h0 h1 h2
      refine w_istore (lv' := [some (.ref 68), some (.int (jI n)), some (.int (jI many)), some (.int (jI (z6 % 6))), some (.int (jI (z7 % 7))), some (.int (jI z9))]) rfl ?_
      refine w_iinc (lv' := [some (.ref 68), some (.int (jI n)), some (.int (jI (many + 1))), some (.int (jI (z6 % 6))), some (.int (jI (z7 % 7))), some (.int (jI z9))]) kc_1 rfl rfl ?_
      refine w_goto ?_
      exact ih2 _ (many + 1) (some (z6 % 6)) (some (z7 % 7)) (some z9) t9 ok9 fr9 (by omega) (by omega) (by omega) (by omega) ez (deal_step hn0 i2_0 (by omega) i2_5 e2 rfl) (deal_step hn0 i2_0 (by omega) i2_6 e3 rfl) (deal_step hn0 i2_0 (by omega) i2_7 e4 rfl) eo (by omega) (by omega)
  exact key2 13 _ 0 none none none t ok fr (by omega) (by omega) (by omega) (by omega) rfl (by intro m; rw [if_neg (by omega)]) (by intro m; rw [if_neg (by omega)]) (by intro m; rw [if_neg (by omega)]) (fun _ _ _ _ => rfl) (by omega) (by omega)
set_option maxRecDepth 100000 in
set_option maxHeartbeats 4000000 in
theorem c_X9_days {d : Nat} {t : TS} {n : Int}  (ok : OK t) (q0 : WF t 69) (q1 : -2147483648 ≤ n) (q2 : n ≤ 2147483647) (q3 : 0 ≤ tA t 69 2) (q4 : tA t 69 2 ≤ 9999) : CI (EX FU (d + 8)) 161 [.ref 68, .int (jI n)] (mk t) (fun z t' => OK t' ∧ Fr [(69, 100), (81, 100), (82, 100)] t t' ∧ (-2147483648 ≤ z) ∧ (z ≤ 2147483647) ∧ (Dq t t') ∧ (((¬ (1 ≤ n ∧ n ≤ 100)) ∧ z = (-1000000001) ∧ t' = t) ∨ ((1 ≤ n ∧ n ≤ 100) ∧ (tA t' 69 0 = zdsF (min n (9999 - tA t 69 2)).toNat (tA t 69 0) (tA t 69 3)) ∧ (tA t' 69 2 = tA t 69 2 + min n (9999 - tA t 69 2))))) := by
  refine CI_ent (d := d + 7) (Bk := bX9_days) (nL := 3) rfl rfl rfl (Nat.le_of_ble_eq_true rfl) ?_
  show Rn _ 1000000 0 [some (.ref 68), some (.int (jI n)), none] [] _ _
  have fr : Fr [(69, 100), (81, 100), (82, 100)] t t := Fr.rf _ _
  have hn0 := (ok.a (ax_69 nr_1)).1
  have hn1 := (ok.a (ax_69 nr_1)).2
  have dq : Dq t t := Dq.rf t
  refine w_step rfl ?_
  refine w_iload rfl ?_
  refine w_push kc_1 ?_
  refine w_push kc_100 ?_
  refine w_callS3I rfl (c_X9_in ok (by omega) (by omega) (by omega) (by omega) (by omega) (by omega)) ?_
  rintro z1 t1 ⟨rfl, hp1_0⟩
  rcases hp1_0 with ⟨rfl, hp1_0⟩ | ⟨rfl, hp1_0⟩
  · skip
    refine w_ine (by omega) (fun h => absurd h (by omega)) (fun _ => ?_)
    refine w_push kc_m1000000001 ?_
    refine w_retI rfl ?_
    exact ⟨ok, fr, (by omega), (by omega), dq, (by first | (exact Or.inl ⟨by omega, by first | omega | (subst_vars; rfl), rfl⟩) | (exact Or.inr (⟨by omega, e1, by omega⟩)))⟩
  refine w_ine (by omega) (fun _ => ?_) (fun h => absurd (by omega) h)
  refine w_step rfl ?_
  refine w_aload rfl ?_
  refine w_callV0I (oj_68 _).choose_spec rfl (c_X9_manyLaid ok) ?_
  rintro z2 t2 ⟨rfl, hp2_0, hp2_1⟩
  refine w_istore (lv' := [some (.ref 68), some (.int (jI n)), some (.int (jI z2))]) rfl ?_
  refine w_aload rfl ?_
  refine w_push kc_9999 ?_
  refine w_aload rfl ?_
  refine w_getR (g_68_0 _) ?_
  refine w_push kc_2 ?_
  refine w_iald (i := 2) (ai_69 _) (by omega) (by omega) (ax_69 nr_2) ok (fun z3 hz3 hl3 hh3 => ?_)
  have en := hz3
  refine w_sub ?_
  refine w_push kc_0 ?_
  refine w_iload rfl ?_
  refine w_callS3I rfl (c_X9_within ok (by omega) (by omega) (by omega) (by omega) (by omega) (by omega) (by omega)) ?_
  rintro z4 t4 ⟨rfl, hp4_0⟩
  have ew : z4 = min n (9999 - tA t 69 2) := by omega
  refine w_callV1V (oj_68 _).choose_spec rfl (c_X9_goesOn ok q0 (by omega) (by omega) (by omega)) ?_
  rintro t5 ⟨ok5, fq5, hp5_0, hp5_1, hp5_2⟩
  have fr5 := fr.then fq5 (by simp)
  have wf5 := q0.dq hp5_0
  have dq5 := dq.trans hp5_0
  have e1 := hp5_1
  rw [ew] at e1
  have e2 := hp5_2 (by omega) (by omega) (by omega)
  refine w_aload rfl ?_
  refine w_callV0I (oj_68 _).choose_spec rfl (c_X9_manyLaid ok5) ?_
  rintro z6 t6 ⟨rfl, hp6_0, hp6_1⟩
  refine w_iload rfl ?_
  refine w_sub ?_
  refine w_retI rfl ?_
  exact ⟨ok5, fr5, (by omega), (by omega), dq5, (by first | (exact Or.inl ⟨by omega, by first | omega | (subst_vars; rfl), rfl⟩) | (exact Or.inr (⟨by omega, e1, by omega⟩)))⟩
set_option maxRecDepth 100000 in
set_option maxHeartbeats 4000000 in
theorem c_X9_at {d : Nat} {t : TS} {p : Int}  (ok : OK t) (q0 : -2147483648 ≤ p) (q1 : p ≤ 2147483647) : CI (EX FU (d + 3)) 165 [.ref 68, .int (jI p)] (mk t) (fun z t' => t = t' ∧ (-2147483648 ≤ z) ∧ (z ≤ 2147483647)) := by
  refine CI_ent (d := d + 2) (Bk := bX9_at) (nL := 2) rfl rfl rfl (Nat.le_of_ble_eq_true rfl) ?_
  show Rn _ 1000000 0 [some (.ref 68), some (.int (jI p))] [] _ _
  have hn0 := (ok.a (ax_69 nr_1)).1
  have hn1 := (ok.a (ax_69 nr_1)).2
  refine w_step rfl ?_
  refine w_iload rfl ?_
  refine w_callS1I rfl (c_X9_isPlace ok (by omega) (by omega)) ?_
  rintro z1 t1 ⟨rfl, hp1_0⟩
  rcases hp1_0 with ⟨rfl, hp1_0⟩ | ⟨rfl, hp1_0⟩
  · skip
    refine w_ieq (by omega) (fun _ => ?_) (fun h => absurd (by omega) h)
    refine w_step rfl ?_
    refine w_push kc_m1000000001 ?_
    refine w_goto ?_
    refine w_step rfl ?_
    refine w_retI rfl ?_
    exact ⟨rfl, (by omega), (by omega)⟩
  refine w_ieq (by omega) (fun h => absurd h (by omega)) (fun _ => ?_)
  refine w_aload rfl ?_
  refine w_iload rfl ?_
  refine w_callV1I (oj_68 _).choose_spec rfl (c_X9_holder ok (by omega) (by omega)) ?_
  rintro z2 t2 ⟨rfl, hp2_0, hp2_1⟩
  refine w_callS1I rfl (c_X9_told0 ok (by omega) (by omega)) ?_
  rintro z3 t3 ⟨rfl, hp3_0⟩
  refine w_goto ?_
  refine w_step rfl ?_
  refine w_retI rfl ?_
  exact ⟨rfl, (by omega), (by omega)⟩
set_option maxRecDepth 100000 in
set_option maxHeartbeats 4000000 in
theorem c_X9_bestFor {d : Nat} {t : TS} {p w : Int}  (ok : OK t) (q0 : WF t 69) (q1 : -2147483648 ≤ p) (q2 : p ≤ 2147483647) (q3 : -2147483648 ≤ w) (q4 : w ≤ 2147483647) : CI (EX FU (d + 6)) 170 [.ref 68, .int (jI p), .int (jI w)] (mk t) (fun z t' => OK t' ∧ Fr [(81, 100), (82, 100)] t t' ∧ (-2147483648 ≤ z) ∧ (z ≤ 2147483647)) := by
  refine CI_ent (d := d + 5) (Bk := bX9_bestFor) (nL := 7) rfl rfl rfl (Nat.le_of_ble_eq_true rfl) ?_
  show Rn _ 1000000 0 [some (.ref 68), some (.int (jI p)), some (.int (jI w)), none, none, none, none] [] _ _
  have fr : Fr [(81, 100), (82, 100)] t t := Fr.rf _ _
  have hn0 := (ok.a (ax_69 nr_1)).1
  have hn1 := (ok.a (ax_69 nr_1)).2
  refine w_step rfl ?_
  refine w_iload rfl ?_
  refine w_callS1I rfl (c_X9_isPlace ok (by omega) (by omega)) ?_
  rintro z1 t1 ⟨rfl, hp1_0⟩
  rcases hp1_0 with ⟨rfl, hp1_0⟩ | ⟨rfl, hp1_0⟩
  · skip
    refine w_ieq (by omega) (fun _ => ?_) (fun h => absurd (by omega) h)
    refine w_step rfl ?_
    refine w_push kc_m1000000001 ?_
    refine w_retI rfl ?_
    exact ⟨ok, fr, (by omega), (by omega)⟩
  refine w_ieq (by omega) (fun h => absurd h (by omega)) (fun _ => ?_)
  refine w_iload rfl ?_
  refine w_push kc_0 ?_
  refine w_push kc_1 ?_
  refine w_callS3I rfl (c_X9_in ok (by omega) (by omega) (by omega) (by omega) (by omega) (by omega)) ?_
  rintro z2 t2 ⟨rfl, hp2_0⟩
  rcases hp2_0 with ⟨rfl, hp2_0⟩ | ⟨rfl, hp2_0⟩
  · skip
    refine w_ine (by omega) (fun h => absurd h (by omega)) (fun _ => ?_)
    refine w_goto ?_
    refine w_step rfl ?_
    refine w_push kc_m1000000001 ?_
    refine w_retI rfl ?_
    exact ⟨ok, fr, (by omega), (by omega)⟩
  refine w_ine (by omega) (fun _ => ?_) (fun h => absurd (by omega) h)
  refine w_step rfl ?_
  refine w_push kc_m1 ?_
  refine w_istore (lv' := [some (.ref 68), some (.int (jI p)), some (.int (jI w)), some (.int (jI (-1))), none, none, none]) rfl ?_
  refine w_push kc_0 ?_
  refine w_istore (lv' := [some (.ref 68), some (.int (jI p)), some (.int (jI w)), some (.int (jI (-1))), some (.int (jI 0)), none, none]) rfl ?_
  refine w_push kc_0 ?_
  refine w_istore (lv' := [some (.ref 68), some (.int (jI p)), some (.int (jI w)), some (.int (jI (-1))), some (.int (jI 0)), some (.int (jI 0)), none]) rfl ?_
  refine w_goto ?_
  have key3 : ∀ (n3 M3 : Nat) (best : Int) (least : Int) (s : Int) (o6 : Option Int) (t3 : TS), OK t3 → Fr [(81, 100), (82, 100)] t t3 → WF t3 69 → (-1 ≤ best) → (best ≤ 11) → (0 ≤ least) → (least ≤ 198) → (0 ≤ s) → (s ≤ 12) → 12 - s < (n3 : Int) → 60 * n3 + (1000) ≤ M3 → Rn (bX9_bestFor (EX FU (d + 5))) M3 3 [some (.ref 68), some (.int (jI p)), some (.int (jI w)), some (.int (jI best)), some (.int (jI least)), some (.int (jI s)), dv o6] [] (mk t3) (PI (fun z t' => OK t' ∧ Fr [(81, 100), (82, 100)] t t' ∧ (-2147483648 ≤ z) ∧ (z ≤ 2147483647))) := by
    intro n3
    induction n3 with
    | zero => intro M3 best least s o6 t3 ok3 fr3 wf3 i3_0 i3_1 i3_2 i3_3 i3_4 i3_5 v3 f3; exfalso; omega
    | succ n3 ih3 =>
      intro M3 best least s o6 t3 ok3 fr3 wf3 i3_0 i3_1 i3_2 i3_3 i3_4 i3_5 v3 f3
      obtain ⟨M3, rfl⟩ : ∃ m, M3 = m + 60 := ⟨M3 - 60, by omega⟩
      refine w_step rfl ?_
      refine w_iload rfl ?_
      refine w_aload rfl ?_
      refine w_getR (g_68_0 _) ?_
      refine w_push kc_1 ?_
      refine w_iald (i := 1) (ai_69 _) (by omega) (by omega) (ax_69 nr_1) ok3 (fun z4 hz4 hl4 hh4 => ?_)
      refine w_cge (by omega) (fun h5 => ?_) (fun h5 => ?_)
      · skip
        refine w_step rfl ?_
        refine w_iload rfl ?_
        refine w_ige (by omega) (fun h6 => ?_) (fun h6 => ?_)
        · skip
          refine w_step rfl ?_
          refine w_iload rfl ?_
          refine w_ine (by omega) (fun h7 => ?_) (fun h7 => ?_)
          · skip
            refine w_step rfl ?_
            refine w_iload rfl ?_
            refine w_goto ?_
            refine w_step rfl ?_
            refine w_retI rfl ?_
            exact ⟨ok3, fr3, (by omega), (by omega)⟩
          refine w_iload rfl ?_
          refine w_goto ?_
          refine w_step rfl ?_
          refine w_retI rfl ?_
          exact ⟨ok3, fr3, (by omega), (by omega)⟩
        refine w_push kc_m1000000005 ?_
        refine w_goto ?_
        refine w_step rfl ?_
        refine w_retI rfl ?_
        exact ⟨ok3, fr3, (by omega), (by omega)⟩
      refine w_aload rfl ?_
      refine w_iload rfl ?_
      refine w_iload rfl ?_
      refine w_callV2I (oj_68 _).choose_spec rfl (c_X9_leastAt ok3 wf3 (by omega) (by omega) (by omega) (by omega)) ?_
      rintro z8 t8 ⟨ok8, fq8, hp8_0, hp8_1⟩
      have fr8 := fr3.then fq8 (by simp)
      have wf8 := wf3.fr fq8 (by simp)
      refine w_istore (lv' := [some (.ref 68), some (.int (jI p)), some (.int (jI w)), some (.int (jI best)), some (.int (jI least)), some (.int (jI s)), some (.int (jI z8))]) rfl ?_
      refine w_iload rfl ?_
      refine w_ilt (by omega) (fun h9 => ?_) (fun h9 => ?_)
      · skip
        refine w_step rfl ?_
        refine w_iload rfl ?_
        refine w_istore (lv' := [some (.ref 68), some (.int (jI p)), some (.int (jI w)), some (.int (jI s)), some (.int (jI least)), some (.int (jI s)), some (.int (jI z8))]) rfl ?_
        refine w_iload rfl ?_
        refine w_istore (lv' := [some (.ref 68), some (.int (jI p)), some (.int (jI w)), some (.int (jI s)), some (.int (jI z8)), some (.int (jI s)), some (.int (jI z8))]) rfl ?_
        refine w_goto ?_
        refine w_step rfl ?_
        refine w_iinc (lv' := [some (.ref 68), some (.int (jI p)), some (.int (jI w)), some (.int (jI s)), some (.int (jI z8)), some (.int (jI (s + 1))), some (.int (jI z8))]) kc_1 rfl rfl ?_
        refine w_goto ?_
        exact ih3 _ s z8 (s + 1) (some z8) t8 ok8 fr8 wf8 (by omega) (by omega) (by omega) (by omega) (by omega) (by omega) (by omega) (by omega)
      refine w_iload rfl ?_
      refine w_iload rfl ?_
      refine w_cge (by omega) (fun h10 => ?_) (fun h10 => ?_)
      · skip
        refine w_step rfl ?_
        refine w_iinc (lv' := [some (.ref 68), some (.int (jI p)), some (.int (jI w)), some (.int (jI best)), some (.int (jI least)), some (.int (jI (s + 1))), some (.int (jI z8))]) kc_1 rfl rfl ?_
        refine w_goto ?_
        exact ih3 _ best least (s + 1) (some z8) t8 ok8 fr8 wf8 (by omega) (by omega) (by omega) (by omega) (by omega) (by omega) (by omega) (by omega)
      refine w_goto ?_
      refine w_step rfl ?_
      refine w_iload rfl ?_
      refine w_istore (lv' := [some (.ref 68), some (.int (jI p)), some (.int (jI w)), some (.int (jI s)), some (.int (jI least)), some (.int (jI s)), some (.int (jI z8))]) rfl ?_
      refine w_iload rfl ?_
      refine w_istore (lv' := [some (.ref 68), some (.int (jI p)), some (.int (jI w)), some (.int (jI s)), some (.int (jI z8)), some (.int (jI s)), some (.int (jI z8))]) rfl ?_
      refine w_goto ?_
      refine w_step rfl ?_
      refine w_iinc (lv' := [some (.ref 68), some (.int (jI p)), some (.int (jI w)), some (.int (jI s)), some (.int (jI z8)), some (.int (jI (s + 1))), some (.int (jI z8))]) kc_1 rfl rfl ?_
      refine w_goto ?_
      exact ih3 _ s z8 (s + 1) (some z8) t8 ok8 fr8 wf8 (by omega) (by omega) (by omega) (by omega) (by omega) (by omega) (by omega) (by omega)
  exact key3 13 _ (-1) 0 0 none t ok fr q0 (by omega) (by omega) (by omega) (by omega) (by omega) (by omega) (by omega) (by omega)
set_option maxRecDepth 100000 in
set_option maxHeartbeats 4000000 in
theorem c_X9_knocked {d : Nat} {t : TS} {p : Int}  (ok : OK t) (q0 : -2147483648 ≤ p) (q1 : p ≤ 2147483647) : CI (EX FU (d + 4)) 174 [.ref 68, .int (jI p)] (mk t) (fun z t' => t = t' ∧ (-2147483648 ≤ z) ∧ (z ≤ 2147483647)) := by
  refine CI_ent (d := d + 3) (Bk := bX9_knocked) (nL := 2) rfl rfl rfl (Nat.le_of_ble_eq_true rfl) ?_
  show Rn _ 1000000 0 [some (.ref 68), some (.int (jI p))] [] _ _
  have hn0 := (ok.a (ax_69 nr_1)).1
  have hn1 := (ok.a (ax_69 nr_1)).2
  refine w_step rfl ?_
  refine w_iload rfl ?_
  refine w_callS1I rfl (c_X9_isPlace ok (by omega) (by omega)) ?_
  rintro z1 t1 ⟨rfl, hp1_0⟩
  rcases hp1_0 with ⟨rfl, hp1_0⟩ | ⟨rfl, hp1_0⟩
  · skip
    refine w_ieq (by omega) (fun _ => ?_) (fun h => absurd (by omega) h)
    refine w_step rfl ?_
    refine w_push kc_m1000000001 ?_
    refine w_goto ?_
    refine w_step rfl ?_
    refine w_retI rfl ?_
    exact ⟨rfl, (by omega), (by omega)⟩
  refine w_ieq (by omega) (fun h => absurd h (by omega)) (fun _ => ?_)
  refine w_aload rfl ?_
  refine w_iload rfl ?_
  refine w_callV1I (oj_68 _).choose_spec rfl (c_X9_falls ok (by omega) (by omega)) ?_
  rintro z2 t2 ⟨rfl, hp2_0, hp2_1⟩
  refine w_goto ?_
  refine w_step rfl ?_
  refine w_retI rfl ?_
  exact ⟨rfl, (by omega), (by omega)⟩
set_option maxRecDepth 100000 in
set_option maxHeartbeats 4000000 in
theorem c_X9_push {d : Nat} {t : TS} {w : Int}  (ok : OK t) (q0 : -2147483648 ≤ w) (q1 : w ≤ 2147483647) : CI (EX FU (d + 4)) 175 [.ref 68, .int (jI w)] (mk t) (fun z t' => t = t' ∧ (-2147483648 ≤ z) ∧ (z ≤ 2147483647)) := by
  refine CI_ent (d := d + 3) (Bk := bX9_push) (nL := 6) rfl rfl rfl (Nat.le_of_ble_eq_true rfl) ?_
  show Rn _ 1000000 0 [some (.ref 68), some (.int (jI w)), none, none, none, none] [] _ _
  have hn0 := (ok.a (ax_69 nr_1)).1
  have hn1 := (ok.a (ax_69 nr_1)).2
  refine w_step rfl ?_
  refine w_iload rfl ?_
  refine w_push kc_0 ?_
  refine w_push kc_1 ?_
  refine w_callS3I rfl (c_X9_in ok (by omega) (by omega) (by omega) (by omega) (by omega) (by omega)) ?_
  rintro z1 t1 ⟨rfl, hp1_0⟩
  rcases hp1_0 with ⟨rfl, hp1_0⟩ | ⟨rfl, hp1_0⟩
  · skip
    refine w_ine (by omega) (fun h => absurd h (by omega)) (fun _ => ?_)
    refine w_push kc_m1000000001 ?_
    refine w_retI rfl ?_
    exact ⟨rfl, (by omega), (by omega)⟩
  refine w_ine (by omega) (fun _ => ?_) (fun h => absurd (by omega) h)
  refine w_step rfl ?_
  refine w_push kc_0 ?_
  refine w_istore (lv' := [some (.ref 68), some (.int (jI w)), some (.int (jI 0)), none, none, none]) rfl ?_
  refine w_aload rfl ?_
  refine w_push kc_0 ?_
  refine w_callV1I (oj_68 _).choose_spec rfl (c_X9_falls ok (by omega) (by omega)) ?_
  rintro z2 t2 ⟨rfl, hp2_0, hp2_1⟩
  refine w_istore (lv' := [some (.ref 68), some (.int (jI w)), some (.int (jI 0)), some (.int (jI z2)), none, none]) rfl ?_
  refine w_push kc_1 ?_
  refine w_istore (lv' := [some (.ref 68), some (.int (jI w)), some (.int (jI 0)), some (.int (jI z2)), some (.int (jI 1)), none]) rfl ?_
  refine w_goto ?_
  have key2 : ∀ (n2 M2 : Nat) (best : Int) (most : Int) (p : Int) (o5 : Option Int), (0 ≤ best) → (best ≤ 12) → (0 ≤ most) → (most ≤ 12) → (1 ≤ p) → (p ≤ 12) → 12 - p < (n2 : Int) → 60 * n2 + (1000) ≤ M2 → Rn (bX9_push (EX FU (d + 3))) M2 2 [some (.ref 68), some (.int (jI w)), some (.int (jI best)), some (.int (jI most)), some (.int (jI p)), dv o5] [] (mk t) (PI (fun z t' => t = t' ∧ (-2147483648 ≤ z) ∧ (z ≤ 2147483647))) := by
    intro n2
    induction n2 with
    | zero => intro M2 best most p o5 i2_0 i2_1 i2_2 i2_3 i2_4 i2_5 v2 f2; exfalso; omega
    | succ n2 ih2 =>
      intro M2 best most p o5 i2_0 i2_1 i2_2 i2_3 i2_4 i2_5 v2 f2
      obtain ⟨M2, rfl⟩ : ∃ m, M2 = m + 60 := ⟨M2 - 60, by omega⟩
      refine w_step rfl ?_
      refine w_iload rfl ?_
      refine w_push kc_12 ?_
      refine w_cge (by omega) (fun h3 => ?_) (fun h3 => ?_)
      · skip
        refine w_step rfl ?_
        refine w_iload rfl ?_
        refine w_ine (by omega) (fun h4 => ?_) (fun h4 => ?_)
        · skip
          refine w_step rfl ?_
          refine w_iload rfl ?_
          refine w_goto ?_
          refine w_step rfl ?_
          refine w_retI rfl ?_
          exact ⟨rfl, (by omega), (by omega)⟩
        refine w_iload rfl ?_
        refine w_goto ?_
        refine w_step rfl ?_
        refine w_retI rfl ?_
        exact ⟨rfl, (by omega), (by omega)⟩
      refine w_aload rfl ?_
      refine w_iload rfl ?_
      refine w_callV1I (oj_68 _).choose_spec rfl (c_X9_falls ok (by omega) (by omega)) ?_
      rintro z5 t5 ⟨rfl, hp5_0, hp5_1⟩
      refine w_istore (lv' := [some (.ref 68), some (.int (jI w)), some (.int (jI best)), some (.int (jI most)), some (.int (jI p)), some (.int (jI z5))]) rfl ?_
      refine w_iload rfl ?_
      refine w_iload rfl ?_
      refine w_cle (by omega) (fun h6 => ?_) (fun h6 => ?_)
      · skip
        refine w_step rfl ?_
        refine w_iload rfl ?_
        refine w_goto ?_
        refine w_step rfl ?_
        refine w_istore (lv' := [some (.ref 68), some (.int (jI w)), some (.int (jI best)), some (.int (jI most)), some (.int (jI p)), some (.int (jI z5))]) rfl ?_
        refine w_iload rfl ?_
        refine w_iload rfl ?_
        refine w_cle (by omega) (fun h7 => ?_) (fun h7 => ?_)
        · skip
          refine w_step rfl ?_
          refine w_iload rfl ?_
          refine w_goto ?_
          refine w_step rfl ?_
          refine w_istore (lv' := [some (.ref 68), some (.int (jI w)), some (.int (jI best)), some (.int (jI most)), some (.int (jI p)), some (.int (jI z5))]) rfl ?_
          refine w_iinc (lv' := [some (.ref 68), some (.int (jI w)), some (.int (jI best)), some (.int (jI most)), some (.int (jI (p + 1))), some (.int (jI z5))]) kc_1 rfl rfl ?_
          refine w_goto ?_
          exact ih2 _ best most (p + 1) (some z5)  (by omega) (by omega) (by omega) (by omega) (by omega) (by omega) (by omega) (by omega)
        refine w_iload rfl ?_
        refine w_goto ?_
        refine w_step rfl ?_
        refine w_istore (lv' := [some (.ref 68), some (.int (jI w)), some (.int (jI best)), some (.int (jI z5)), some (.int (jI p)), some (.int (jI z5))]) rfl ?_
        refine w_iinc (lv' := [some (.ref 68), some (.int (jI w)), some (.int (jI best)), some (.int (jI z5)), some (.int (jI (p + 1))), some (.int (jI z5))]) kc_1 rfl rfl ?_
        refine w_goto ?_
        exact ih2 _ best z5 (p + 1) (some z5)  (by omega) (by omega) (by omega) (by omega) (by omega) (by omega) (by omega) (by omega)
      refine w_iload rfl ?_
      refine w_goto ?_
      refine w_step rfl ?_
      refine w_istore (lv' := [some (.ref 68), some (.int (jI w)), some (.int (jI p)), some (.int (jI most)), some (.int (jI p)), some (.int (jI z5))]) rfl ?_
      refine w_iload rfl ?_
      refine w_iload rfl ?_
      refine w_cle (by omega) (fun h8 => ?_) (fun h8 => ?_)
      · skip
        refine w_step rfl ?_
        refine w_iload rfl ?_
        refine w_goto ?_
        refine w_step rfl ?_
        refine w_istore (lv' := [some (.ref 68), some (.int (jI w)), some (.int (jI p)), some (.int (jI most)), some (.int (jI p)), some (.int (jI z5))]) rfl ?_
        refine w_iinc (lv' := [some (.ref 68), some (.int (jI w)), some (.int (jI p)), some (.int (jI most)), some (.int (jI (p + 1))), some (.int (jI z5))]) kc_1 rfl rfl ?_
        refine w_goto ?_
        exact ih2 _ p most (p + 1) (some z5)  (by omega) (by omega) (by omega) (by omega) (by omega) (by omega) (by omega) (by omega)
      refine w_iload rfl ?_
      refine w_goto ?_
      refine w_step rfl ?_
      refine w_istore (lv' := [some (.ref 68), some (.int (jI w)), some (.int (jI p)), some (.int (jI z5)), some (.int (jI p)), some (.int (jI z5))]) rfl ?_
      refine w_iinc (lv' := [some (.ref 68), some (.int (jI w)), some (.int (jI p)), some (.int (jI z5)), some (.int (jI (p + 1))), some (.int (jI z5))]) kc_1 rfl rfl ?_
      refine w_goto ?_
      exact ih2 _ p z5 (p + 1) (some z5)  (by omega) (by omega) (by omega) (by omega) (by omega) (by omega) (by omega) (by omega)
  exact key2 13 _ 0 z2 1 none  (by omega) (by omega) (by omega) (by omega) (by omega) (by omega) (by omega) (by omega)
set_option maxRecDepth 100000 in
set_option maxHeartbeats 4000000 in
theorem c_X9_behind {d : Nat} {t : TS} {n w : Int}  (ok : OK t) (q0 : WF t 69) (q1 : -2147483648 ≤ n) (q2 : n ≤ 2147483647) (q3 : -2147483648 ≤ w) (q4 : w ≤ 2147483647) : CI (EX FU (d + 8)) 178 [.ref 68, .int (jI n), .int (jI w)] (mk t) (fun z t' => OK t' ∧ Fr [(69, 100), (74, 100), (68, 4), (81, 100), (82, 100)] t t' ∧ (-2147483648 ≤ z) ∧ (z ≤ 2147483647) ∧ (∀ i, tA t' 69 i = tA t 69 i)) := by
  refine CI_ent (d := d + 7) (Bk := bX9_behind) (nL := 4) rfl rfl rfl (Nat.le_of_ble_eq_true rfl) ?_
  show Rn _ 1000000 0 [some (.ref 68), some (.int (jI n)), some (.int (jI w)), none] [] _ _
  have fr : Fr [(69, 100), (74, 100), (68, 4), (81, 100), (82, 100)] t t := Fr.rf _ _
  have hn0 := (ok.a (ax_69 nr_1)).1
  have hn1 := (ok.a (ax_69 nr_1)).2
  refine w_step rfl ?_
  refine w_iload rfl ?_
  refine w_push kc_0 ?_
  refine w_push kc_100 ?_
  refine w_callS3I rfl (c_X9_in ok (by omega) (by omega) (by omega) (by omega) (by omega) (by omega)) ?_
  rintro z1 t1 ⟨rfl, hp1_0⟩
  rcases hp1_0 with ⟨rfl, hp1_0⟩ | ⟨rfl, hp1_0⟩
  · skip
    refine w_ieq (by omega) (fun _ => ?_) (fun h => absurd (by omega) h)
    refine w_step rfl ?_
    refine w_push kc_m1000000001 ?_
    refine w_retI rfl ?_
    exact ⟨ok, fr, (by omega), (by omega), (by first | exact pf | exact fun i => rfl)⟩
  refine w_ieq (by omega) (fun h => absurd h (by omega)) (fun _ => ?_)
  refine w_iload rfl ?_
  refine w_push kc_0 ?_
  refine w_push kc_14 ?_
  refine w_callS3I rfl (c_X9_in ok (by omega) (by omega) (by omega) (by omega) (by omega) (by omega)) ?_
  rintro z2 t2 ⟨rfl, hp2_0⟩
  rcases hp2_0 with ⟨rfl, hp2_0⟩ | ⟨rfl, hp2_0⟩
  · skip
    refine w_ine (by omega) (fun h => absurd h (by omega)) (fun _ => ?_)
    refine w_goto ?_
    refine w_step rfl ?_
    refine w_push kc_m1000000001 ?_
    refine w_retI rfl ?_
    exact ⟨ok, fr, (by omega), (by omega), (by first | exact pf | exact fun i => rfl)⟩
  refine w_ine (by omega) (fun _ => ?_) (fun h => absurd (by omega) h)
  refine w_step rfl ?_
  refine w_aload rfl ?_
  refine w_callV0V (oj_68 _).choose_spec rfl (c_X9_thinks ok) ?_
  rintro t3 ⟨ok3, fq3, hp3_0⟩
  have fr3 := fr.then fq3 (by simp)
  have wf3 := q0.fr fq3 (by simp)
  have p1 : ∀ i, 89 ≤ i → tA t3 69 i = tA t 69 i := fun i _ => fq3.2.1 69 (by simp) i
  have p2 : ∀ i, i < 89 → tA t3 74 i = tA t 69 i := hp3_0
  refine w_aload rfl ?_
  refine w_iload rfl ?_
  refine w_callV1V (oj_68 _).choose_spec rfl (c_X9_goesOn ok3 wf3 (by omega) (by omega) (by omega)) ?_
  rintro t4 ⟨ok4, fq4, hp4_0, hp4_1, hp4_2⟩
  have fr4 := fr3.then fq4 (by simp)
  have wf4 := wf3.dq hp4_0
  have p2 : ∀ i, i < 89 → tA t4 74 i = tA t 69 i := fun i hi => (fq4.2.1 74 (by simp) i).trans (p2 i hi)
  have p1 : ∀ i, 89 ≤ i → tA t4 69 i = tA t 69 i := fun i hi => (hp4_0 i (by omega) (by omega) (by omega)).trans (p1 i hi)
  refine w_iload rfl ?_
  refine w_push kc_2 ?_
  refine w_cle (by omega) (fun h5 => ?_) (fun h5 => ?_)
  · skip
    refine w_step rfl ?_
    refine w_aload rfl ?_
    refine w_iload rfl ?_
    refine w_callV1I (oj_68 _).choose_spec rfl (c_X9_king ok4 wf4 (by omega) (by omega)) ?_
    rintro z6 t6 ⟨ok6, fq6, hp6_0, hp6_1⟩
    have fr6 := fr4.then fq6 (by simp)
    have wf6 := wf4.fr fq6 (by simp)
    have p2 : ∀ i, i < 89 → tA t6 74 i = tA t 69 i := fun i hi => (fq6.2.1 74 (by simp) i).trans (p2 i hi)
    have p1 : ∀ i, 89 ≤ i → tA t6 69 i = tA t 69 i := fun i hi => (fq6.2.1 69 (by simp) i).trans (p1 i hi)
    refine w_goto ?_
    refine w_step rfl ?_
    refine w_istore (lv' := [some (.ref 68), some (.int (jI n)), some (.int (jI w)), some (.int (jI z6))]) rfl ?_
    refine w_aload rfl ?_
    refine w_callV0V (oj_68 _).choose_spec rfl (c_X9_putsBack ok6) ?_
    rintro t7 ⟨ok7, fq7, hp7_0, hp7_1⟩
    have fr7 := fr6.then fq7 (by simp)
    have pf : ∀ i, tA t7 69 i = tA t 69 i := fun i => (Nat.lt_or_ge i 89).elim (fun h => (hp7_0 i h).trans (p2 i h)) (fun h => (hp7_1 i h).trans (p1 i h))
    refine w_iload rfl ?_
    refine w_retI rfl ?_
    exact ⟨ok7, fr7, (by omega), (by omega), (by first | exact pf | exact fun i => rfl)⟩
  refine w_aload rfl ?_
  refine w_iload rfl ?_
  refine w_push kc_3 ?_
  refine w_sub ?_
  refine w_callV1I (oj_68 _).choose_spec rfl (c_X9_holder ok4 (by omega) (by omega)) ?_
  rintro z8 t8 ⟨rfl, hp8_0, hp8_1⟩
  refine w_callS1I rfl (c_X9_told0 ok4 (by omega) (by omega)) ?_
  rintro z9 t9 ⟨rfl, hp9_0⟩
  refine w_goto ?_
  refine w_step rfl ?_
  refine w_istore (lv' := [some (.ref 68), some (.int (jI n)), some (.int (jI w)), some (.int (jI z9))]) rfl ?_
  refine w_aload rfl ?_
  refine w_callV0V (oj_68 _).choose_spec rfl (c_X9_putsBack ok4) ?_
  rintro t10 ⟨ok10, fq10, hp10_0, hp10_1⟩
  have fr10 := fr4.then fq10 (by simp)
  have pf : ∀ i, tA t10 69 i = tA t 69 i := fun i => (Nat.lt_or_ge i 89).elim (fun h => (hp10_0 i h).trans (p2 i h)) (fun h => (hp10_1 i h).trans (p1 i h))
  refine w_iload rfl ?_
  refine w_retI rfl ?_
  exact ⟨ok10, fr10, (by omega), (by omega), (by first | exact pf | exact fun i => rfl)⟩
set_option maxRecDepth 100000 in
set_option maxHeartbeats 4000000 in
theorem c_X9_laid {d : Nat} {t : TS}  (ok : OK t) (q0 : WF t 69) : CI (EX FU (d + 7)) 180 [.ref 68] (mk t) (fun z t' => OK t' ∧ Fr [(69, 100), (74, 100), (68, 4), (81, 100), (82, 100)] t t' ∧ (-2147483648 ≤ z) ∧ (z ≤ 2147483647) ∧ (∀ i, tA t' 69 i = tA t 69 i)) := by
  refine CI_ent (d := d + 6) (Bk := bX9_laid) (nL := 2) rfl rfl rfl (Nat.le_of_ble_eq_true rfl) ?_
  show Rn _ 1000000 0 [some (.ref 68), none] [] _ _
  have fr : Fr [(69, 100), (74, 100), (68, 4), (81, 100), (82, 100)] t t := Fr.rf _ _
  have hn0 := (ok.a (ax_69 nr_1)).1
  have hn1 := (ok.a (ax_69 nr_1)).2
  refine w_step rfl ?_
  refine w_aload rfl ?_
  refine w_callV0V (oj_68 _).choose_spec rfl (c_X9_thinks ok) ?_
  rintro t1 ⟨ok1, fq1, hp1_0⟩
  have fr1 := fr.then fq1 (by simp)
  have wf1 := q0.fr fq1 (by simp)
  have p1 : ∀ i, 89 ≤ i → tA t1 69 i = tA t 69 i := fun i _ => fq1.2.1 69 (by simp) i
  have p2 : ∀ i, i < 89 → tA t1 74 i = tA t 69 i := hp1_0
  refine w_push kc_0 ?_
  refine w_istore (lv' := [some (.ref 68), some (.int (jI 0))]) rfl ?_
  refine w_goto ?_
  have key1 : ∀ (n1 M1 : Nat) (n : Int) (t2 : TS), OK t2 → Fr [(69, 100), (74, 100), (68, 4), (81, 100), (82, 100)] t t2 → WF t2 69 → (0 ≤ n) → (n ≤ 201) → (∀ i, 89 ≤ i → tA t2 69 i = tA t 69 i) → (∀ i, i < 89 → tA t2 74 i = tA t 69 i) → 201 - n < (n1 : Int) → 60 * n1 + (1000) ≤ M1 → Rn (bX9_laid (EX FU (d + 6))) M1 1 [some (.ref 68), some (.int (jI n))] [] (mk t2) (PI (fun z t' => OK t' ∧ Fr [(69, 100), (74, 100), (68, 4), (81, 100), (82, 100)] t t' ∧ (-2147483648 ≤ z) ∧ (z ≤ 2147483647) ∧ (∀ i, tA t' 69 i = tA t 69 i))) := by
    intro n1
    induction n1 with
    | zero => intro M1 n t2 ok2 fr2 wf2 i1_0 i1_1 i1_2 i1_3 v1 f1; exfalso; omega
    | succ n1 ih1 =>
      intro M1 n t2 ok2 fr2 wf2 i1_0 i1_1 i1_2 i1_3 v1 f1
      obtain ⟨M1, rfl⟩ : ∃ m, M1 = m + 60 := ⟨M1 - 60, by omega⟩
      have p1 := i1_2
      have p2 := i1_3
      refine w_step rfl ?_
      refine w_iload rfl ?_
      refine w_push kc_200 ?_
      refine w_cgt (by omega) (fun h3 => ?_) (fun h3 => ?_)
      · skip
        refine w_step rfl ?_
        refine w_aload rfl ?_
        refine w_callV0V (oj_68 _).choose_spec rfl (c_X9_putsBack ok2) ?_
        rintro t4 ⟨ok4, fq4, hp4_0, hp4_1⟩
        have fr4 := fr2.then fq4 (by simp)
        have pf : ∀ i, tA t4 69 i = tA t 69 i := fun i => (Nat.lt_or_ge i 89).elim (fun h => (hp4_0 i h).trans (p2 i h)) (fun h => (hp4_1 i h).trans (p1 i h))
        refine w_iload rfl ?_
        refine w_push kc_200 ?_
        refine w_cle (by omega) (fun h5 => ?_) (fun h5 => ?_)
        · skip
          refine w_step rfl ?_
          refine w_iload rfl ?_
          refine w_goto ?_
          refine w_step rfl ?_
          refine w_retI rfl ?_
          exact ⟨ok4, fr4, (by omega), (by omega), (by first | exact pf | exact fun i => rfl)⟩
        refine w_push kc_m1000000005 ?_
        refine w_goto ?_
        refine w_step rfl ?_
        refine w_retI rfl ?_
        exact ⟨ok4, fr4, (by omega), (by omega), (by first | exact pf | exact fun i => rfl)⟩
      refine w_aload rfl ?_
      refine w_callV0I (oj_68 _).choose_spec rfl (c_X9_isLaid ok2) ?_
      rintro z6 t6 ⟨rfl, hp6_0, hp6_1⟩
      refine w_ine (by omega) (fun h7 => ?_) (fun h7 => ?_)
      · skip
        refine w_step rfl ?_
        refine w_aload rfl ?_
        refine w_callV0V (oj_68 _).choose_spec rfl (c_X9_putsBack ok2) ?_
        rintro t8 ⟨ok8, fq8, hp8_0, hp8_1⟩
        have fr8 := fr2.then fq8 (by simp)
        have pf : ∀ i, tA t8 69 i = tA t 69 i := fun i => (Nat.lt_or_ge i 89).elim (fun h => (hp8_0 i h).trans (p2 i h)) (fun h => (hp8_1 i h).trans (p1 i h))
        refine w_iload rfl ?_
        refine w_push kc_200 ?_
        refine w_cle (by omega) (fun h9 => ?_) (fun h9 => ?_)
        · skip
          refine w_step rfl ?_
          refine w_iload rfl ?_
          refine w_goto ?_
          refine w_step rfl ?_
          refine w_retI rfl ?_
          exact ⟨ok8, fr8, (by omega), (by omega), (by first | exact pf | exact fun i => rfl)⟩
        refine w_push kc_m1000000005 ?_
        refine w_goto ?_
        refine w_step rfl ?_
        refine w_retI rfl ?_
        exact ⟨ok8, fr8, (by omega), (by omega), (by first | exact pf | exact fun i => rfl)⟩
      refine w_aload rfl ?_
      refine w_callV0V (oj_68 _).choose_spec rfl (c_X9_day ok2 wf2) ?_
      rintro t10 ⟨ok10, fq10, hp10_0, hp10_1, hp10_2⟩
      have fr10 := fr2.then fq10 (by simp)
      have wf10 := wf2.dq hp10_0
      have p2 : ∀ i, i < 89 → tA t10 74 i = tA t 69 i := fun i hi => (fq10.2.1 74 (by simp) i).trans (p2 i hi)
      have p1 : ∀ i, 89 ≤ i → tA t10 69 i = tA t 69 i := fun i hi => (hp10_0 i (by omega) (by omega) (by omega)).trans (p1 i hi)
      refine w_iinc (lv' := [some (.ref 68), some (.int (jI (n + 1)))]) kc_1 rfl rfl ?_
      refine w_goto ?_
      exact ih1 _ (n + 1) t10 ok10 fr10 wf10 (by omega) (by omega) p1 p2 (by omega) (by omega)
  exact key1 202 _ 0 t1 ok1 fr1 wf1 (by omega) (by omega) p1 p2 (by omega) (by omega)
set_option maxRecDepth 100000 in
set_option maxHeartbeats 4000000 in
theorem c_X9_lost {d : Nat} {t : TS} {n w : Int}  (ok : OK t) (q0 : WF t 69) (q1 : -2147483648 ≤ n) (q2 : n ≤ 2147483647) (q3 : -2147483648 ≤ w) (q4 : w ≤ 2147483647) : CI (EX FU (d + 8)) 181 [.ref 68, .int (jI n), .int (jI w)] (mk t) (fun z t' => OK t' ∧ Fr [(69, 100), (74, 100), (68, 4), (81, 100), (82, 100)] t t' ∧ (-2147483648 ≤ z) ∧ (z ≤ 2147483647) ∧ (∀ i, tA t' 69 i = tA t 69 i)) := by
  refine CI_ent (d := d + 7) (Bk := bX9_lost) (nL := 7) rfl rfl rfl (Nat.le_of_ble_eq_true rfl) ?_
  show Rn _ 1000000 0 [some (.ref 68), some (.int (jI n)), some (.int (jI w)), none, none, none, none] [] _ _
  have fr : Fr [(69, 100), (74, 100), (68, 4), (81, 100), (82, 100)] t t := Fr.rf _ _
  have hn0 := (ok.a (ax_69 nr_1)).1
  have hn1 := (ok.a (ax_69 nr_1)).2
  refine w_step rfl ?_
  refine w_iload rfl ?_
  refine w_push kc_0 ?_
  refine w_push kc_60 ?_
  refine w_callS3I rfl (c_X9_in ok (by omega) (by omega) (by omega) (by omega) (by omega) (by omega)) ?_
  rintro z1 t1 ⟨rfl, hp1_0⟩
  rcases hp1_0 with ⟨rfl, hp1_0⟩ | ⟨rfl, hp1_0⟩
  · skip
    refine w_ieq (by omega) (fun _ => ?_) (fun h => absurd (by omega) h)
    refine w_step rfl ?_
    refine w_push kc_m1000000001 ?_
    refine w_retI rfl ?_
    exact ⟨ok, fr, (by omega), (by omega), (by first | exact pf | exact fun i => rfl)⟩
  refine w_ieq (by omega) (fun h => absurd h (by omega)) (fun _ => ?_)
  refine w_iload rfl ?_
  refine w_push kc_0 ?_
  refine w_push kc_1 ?_
  refine w_callS3I rfl (c_X9_in ok (by omega) (by omega) (by omega) (by omega) (by omega) (by omega)) ?_
  rintro z2 t2 ⟨rfl, hp2_0⟩
  rcases hp2_0 with ⟨rfl, hp2_0⟩ | ⟨rfl, hp2_0⟩
  · skip
    refine w_ine (by omega) (fun h => absurd h (by omega)) (fun _ => ?_)
    refine w_goto ?_
    refine w_step rfl ?_
    refine w_push kc_m1000000001 ?_
    refine w_retI rfl ?_
    exact ⟨ok, fr, (by omega), (by omega), (by first | exact pf | exact fun i => rfl)⟩
  refine w_ine (by omega) (fun _ => ?_) (fun h => absurd (by omega) h)
  refine w_step rfl ?_
  refine w_aload rfl ?_
  refine w_callV0V (oj_68 _).choose_spec rfl (c_X9_thinks ok) ?_
  rintro t3 ⟨ok3, fq3, hp3_0⟩
  have fr3 := fr.then fq3 (by simp)
  have wf3 := q0.fr fq3 (by simp)
  have p1 : ∀ i, 89 ≤ i → tA t3 69 i = tA t 69 i := fun i _ => fq3.2.1 69 (by simp) i
  have p2 : ∀ i, i < 89 → tA t3 74 i = tA t 69 i := hp3_0
  have fq0 : ∀ i, tA t3 69 i = tA t 69 i := fun i => fq3.2.1 69 (by simp) i
  refine w_push kc_m1 ?_
  refine w_istore (lv' := [some (.ref 68), some (.int (jI n)), some (.int (jI w)), some (.int (jI (-1))), none, none, none]) rfl ?_
  refine w_push kc_0 ?_
  refine w_istore (lv' := [some (.ref 68), some (.int (jI n)), some (.int (jI w)), some (.int (jI (-1))), some (.int (jI 0)), none, none]) rfl ?_
  refine w_push kc_0 ?_
  refine w_istore (lv' := [some (.ref 68), some (.int (jI n)), some (.int (jI w)), some (.int (jI (-1))), some (.int (jI 0)), some (.int (jI 0)), none]) rfl ?_
  refine w_goto ?_
  have key3 : ∀ (n3 M3 : Nat) (best : Int) (least : Int) (s : Int) (o6 : Option Int) (t4 : TS), OK t4 → Fr [(69, 100), (74, 100), (68, 4), (81, 100), (82, 100)] t t4 → WF t4 69 → (-1 ≤ best) → (best ≤ 11) → (0 ≤ least) → (least ≤ 2376) → (0 ≤ s) → (s ≤ 12) → (∀ i, tA t4 69 i = tA t 69 i) → (∀ i, i < 89 → tA t4 74 i = tA t 69 i) → 12 - s < (n3 : Int) → 60 * n3 + (1000) ≤ M3 → Rn (bX9_lost (EX FU (d + 7))) M3 3 [some (.ref 68), some (.int (jI n)), some (.int (jI w)), some (.int (jI best)), some (.int (jI least)), some (.int (jI s)), dv o6] [] (mk t4) (PI (fun z t' => OK t' ∧ Fr [(69, 100), (74, 100), (68, 4), (81, 100), (82, 100)] t t' ∧ (-2147483648 ≤ z) ∧ (z ≤ 2147483647) ∧ (∀ i, tA t' 69 i = tA t 69 i))) := by
    intro n3
    induction n3 with
    | zero => intro M3 best least s o6 t4 ok4 fr4 wf4 i3_0 i3_1 i3_2 i3_3 i3_4 i3_5 i3_6 i3_7 v3 f3; exfalso; omega
    | succ n3 ih3 =>
      intro M3 best least s o6 t4 ok4 fr4 wf4 i3_0 i3_1 i3_2 i3_3 i3_4 i3_5 i3_6 i3_7 v3 f3
      obtain ⟨M3, rfl⟩ : ∃ m, M3 = m + 60 := ⟨M3 - 60, by omega⟩
      have p1 : ∀ i, 89 ≤ i → tA t4 69 i = tA t 69 i := fun i _ => i3_6 i
      have p2 := i3_7
      have pf := i3_6
      refine w_step rfl ?_
      refine w_iload rfl ?_
      refine w_aload rfl ?_
      refine w_getR (g_68_0 _) ?_
      refine w_push kc_1 ?_
      refine w_iald (i := 1) (ai_69 _) (by omega) (by omega) (ax_69 nr_1) ok4 (fun z5 hz5 hl5 hh5 => ?_)
      refine w_cge (by omega) (fun h6 => ?_) (fun h6 => ?_)
      · skip
        refine w_step rfl ?_
        refine w_iload rfl ?_
        refine w_ige (by omega) (fun h7 => ?_) (fun h7 => ?_)
        · skip
          refine w_step rfl ?_
          refine w_iload rfl ?_
          refine w_ine (by omega) (fun h8 => ?_) (fun h8 => ?_)
          · skip
            refine w_step rfl ?_
            refine w_iload rfl ?_
            refine w_goto ?_
            refine w_step rfl ?_
            refine w_retI rfl ?_
            exact ⟨ok4, fr4, (by omega), (by omega), (by first | exact pf | exact fun i => rfl)⟩
          refine w_iload rfl ?_
          refine w_goto ?_
          refine w_step rfl ?_
          refine w_retI rfl ?_
          exact ⟨ok4, fr4, (by omega), (by omega), (by first | exact pf | exact fun i => rfl)⟩
        refine w_push kc_m1000000005 ?_
        refine w_goto ?_
        refine w_step rfl ?_
        refine w_retI rfl ?_
        exact ⟨ok4, fr4, (by omega), (by omega), (by first | exact pf | exact fun i => rfl)⟩
      refine w_aload rfl ?_
      refine w_getR (g_68_0 _) ?_
      refine w_push kc_29 ?_
      refine w_push kc_5 ?_
      refine w_iload rfl ?_
      refine w_mul ?_
      refine w_add ?_
      refine w_push kc_3 ?_
      refine w_add ?_
      refine w_push kc_12 ?_
      refine w_iast (i := (((29 + (5 * s)) + 3)).toNat) (ai_69 _) rfl (by omega) (by omega) (ax_69 (nr_S3 (s := s.toNat) (by omega))) ok4 (by omega) (fun t9 ht9 ok9 => ?_)
      have fr9 := fr4.uA ht9 (by simp)
      have wf9 := wf4.u69 ht9 (by omega)
      have p1 : ∀ i, 89 ≤ i → tA t9 69 i = tA t 69 i := fun i hi => by rw [ht9, tA_uA, if_neg (by omega)]; exact p1 i hi
      have p2 : ∀ i, i < 89 → tA t9 74 i = tA t 69 i := fun i hi => by rw [ht9, tA_uA, if_neg (by omega)]; exact p2 i hi
      refine w_aload rfl ?_
      refine w_iload rfl ?_
      refine w_putI (p_68_4 _) fe_68_4 ok9 (by omega) (fun t10 ht10 ok10 => ?_)
      have fr10 := fr9.uI ht10 (by simp)
      have wf10 := wf9.uI ht10
      have p1 : ∀ i, 89 ≤ i → tA t10 69 i = tA t 69 i := fun i hi => by rw [ht10, tA_uI]; exact p1 i hi
      have p2 : ∀ i, i < 89 → tA t10 74 i = tA t 69 i := fun i hi => by rw [ht10, tA_uI]; exact p2 i hi
      refine w_aload rfl ?_
      refine w_iload rfl ?_
      refine w_callV1V (oj_68 _).choose_spec rfl (c_X9_goesOn ok10 wf10 (by omega) (by omega) (by omega)) ?_
      rintro t11 ⟨ok11, fq11, hp11_0, hp11_1, hp11_2⟩
      have fr11 := fr10.then fq11 (by simp)
      have wf11 := wf10.dq hp11_0
      have p2 : ∀ i, i < 89 → tA t11 74 i = tA t 69 i := fun i hi => (fq11.2.1 74 (by simp) i).trans (p2 i hi)
      have p1 : ∀ i, 89 ≤ i → tA t11 69 i = tA t 69 i := fun i hi => (hp11_0 i (by omega) (by omega) (by omega)).trans (p1 i hi)
      refine w_aload rfl ?_
      refine w_callV0I (oj_68 _).choose_spec rfl (c_X9_picture ok11 wf11) ?_
      rintro z12 t12 ⟨ok12, fq12, hp12_0, hp12_1⟩
      have fr12 := fr11.then fq12 (by simp)
      have wf12 := wf11.fr fq12 (by simp)
      have p2 : ∀ i, i < 89 → tA t12 74 i = tA t 69 i := fun i hi => (fq12.2.1 74 (by simp) i).trans (p2 i hi)
      have p1 : ∀ i, 89 ≤ i → tA t12 69 i = tA t 69 i := fun i hi => (fq12.2.1 69 (by simp) i).trans (p1 i hi)
      refine w_istore (lv' := [some (.ref 68), some (.int (jI n)), some (.int (jI w)), some (.int (jI best)), some (.int (jI least)), some (.int (jI s)), some (.int (jI z12))]) rfl ?_
      refine w_aload rfl ?_
      refine w_callV0V (oj_68 _).choose_spec rfl (c_X9_putsBack ok12) ?_
      rintro t13 ⟨ok13, fq13, hp13_0, hp13_1⟩
      have fr13 := fr12.then fq13 (by simp)
      have pf : ∀ i, tA t13 69 i = tA t 69 i := fun i => (Nat.lt_or_ge i 89).elim (fun h => (hp13_0 i h).trans (p2 i h)) (fun h => (hp13_1 i h).trans (p1 i h))
      have p2 : ∀ i, i < 89 → tA t13 74 i = tA t 69 i := fun i hi => (fq13.2.1 74 (by simp) i).trans (p2 i hi)
      have wf13 : WF t13 69 := q0.same (fun i _ => pf i)
      refine w_iload rfl ?_
      refine w_ilt (by omega) (fun h14 => ?_) (fun h14 => ?_)
      · skip
        refine w_step rfl ?_
        refine w_iload rfl ?_
        refine w_istore (lv' := [some (.ref 68), some (.int (jI n)), some (.int (jI w)), some (.int (jI s)), some (.int (jI least)), some (.int (jI s)), some (.int (jI z12))]) rfl ?_
        refine w_iload rfl ?_
        refine w_istore (lv' := [some (.ref 68), some (.int (jI n)), some (.int (jI w)), some (.int (jI s)), some (.int (jI z12)), some (.int (jI s)), some (.int (jI z12))]) rfl ?_
        refine w_goto ?_
        refine w_step rfl ?_
        refine w_iinc (lv' := [some (.ref 68), some (.int (jI n)), some (.int (jI w)), some (.int (jI s)), some (.int (jI z12)), some (.int (jI (s + 1))), some (.int (jI z12))]) kc_1 rfl rfl ?_
        refine w_goto ?_
        exact ih3 _ s z12 (s + 1) (some z12) t13 ok13 fr13 wf13 (by omega) (by omega) (by omega) (by omega) (by omega) (by omega) pf p2 (by omega) (by omega)
      refine w_iload rfl ?_
      refine w_iload rfl ?_
      refine w_cge (by omega) (fun h15 => ?_) (fun h15 => ?_)
      · skip
        refine w_step rfl ?_
        refine w_iinc (lv' := [some (.ref 68), some (.int (jI n)), some (.int (jI w)), some (.int (jI best)), some (.int (jI least)), some (.int (jI (s + 1))), some (.int (jI z12))]) kc_1 rfl rfl ?_
        refine w_goto ?_
        exact ih3 _ best least (s + 1) (some z12) t13 ok13 fr13 wf13 (by omega) (by omega) (by omega) (by omega) (by omega) (by omega) pf p2 (by omega) (by omega)
      refine w_goto ?_
      refine w_step rfl ?_
      refine w_iload rfl ?_
      refine w_istore (lv' := [some (.ref 68), some (.int (jI n)), some (.int (jI w)), some (.int (jI s)), some (.int (jI least)), some (.int (jI s)), some (.int (jI z12))]) rfl ?_
      refine w_iload rfl ?_
      refine w_istore (lv' := [some (.ref 68), some (.int (jI n)), some (.int (jI w)), some (.int (jI s)), some (.int (jI z12)), some (.int (jI s)), some (.int (jI z12))]) rfl ?_
      refine w_goto ?_
      refine w_step rfl ?_
      refine w_iinc (lv' := [some (.ref 68), some (.int (jI n)), some (.int (jI w)), some (.int (jI s)), some (.int (jI z12)), some (.int (jI (s + 1))), some (.int (jI z12))]) kc_1 rfl rfl ?_
      refine w_goto ?_
      exact ih3 _ s z12 (s + 1) (some z12) t13 ok13 fr13 wf13 (by omega) (by omega) (by omega) (by omega) (by omega) (by omega) pf p2 (by omega) (by omega)
  exact key3 13 _ (-1) 0 0 none t3 ok3 fr3 wf3 (by omega) (by omega) (by omega) (by omega) (by omega) (by omega) (fun i => by first | exact fq0 i | omega) p2 (by omega) (by omega)
set_option maxRecDepth 100000 in
set_option maxHeartbeats 4000000 in
theorem c_X9_seen {d : Nat} {t : TS} {k w : Int}  (ok : OK t) (q0 : WF t 69) (q1 : -2147483648 ≤ k) (q2 : k ≤ 2147483647) (q3 : -2147483648 ≤ w) (q4 : w ≤ 2147483647) : CI (EX FU (d + 6)) 184 [.ref 68, .int (jI k), .int (jI w)] (mk t) (fun z t' => OK t' ∧ Fr [(81, 100), (82, 100)] t t' ∧ (-2147483648 ≤ z) ∧ (z ≤ 2147483647)) := by
  refine CI_ent (d := d + 5) (Bk := bX9_seen) (nL := 9) rfl rfl rfl (Nat.le_of_ble_eq_true rfl) ?_
  show Rn _ 1000000 0 [some (.ref 68), some (.int (jI k)), some (.int (jI w)), none, none, none, none, none, none] [] _ _
  have fr : Fr [(81, 100), (82, 100)] t t := Fr.rf _ _
  have hn0 := (ok.a (ax_69 nr_1)).1
  have hn1 := (ok.a (ax_69 nr_1)).2
  refine w_step rfl ?_
  refine w_iload rfl ?_
  refine w_callS1I rfl (c_X9_isSheet ok (by omega) (by omega)) ?_
  rintro z1 t1 ⟨rfl, hp1_0⟩
  rcases hp1_0 with ⟨rfl, hp1_0⟩ | ⟨rfl, hp1_0⟩
  · skip
    refine w_ieq (by omega) (fun _ => ?_) (fun h => absurd (by omega) h)
    refine w_step rfl ?_
    refine w_push kc_m1000000001 ?_
    refine w_retI rfl ?_
    exact ⟨ok, fr, (by omega), (by omega)⟩
  refine w_ieq (by omega) (fun h => absurd h (by omega)) (fun _ => ?_)
  refine w_iload rfl ?_
  refine w_push kc_0 ?_
  refine w_push kc_1 ?_
  refine w_callS3I rfl (c_X9_in ok (by omega) (by omega) (by omega) (by omega) (by omega) (by omega)) ?_
  rintro z2 t2 ⟨rfl, hp2_0⟩
  rcases hp2_0 with ⟨rfl, hp2_0⟩ | ⟨rfl, hp2_0⟩
  · skip
    refine w_ine (by omega) (fun h => absurd h (by omega)) (fun _ => ?_)
    refine w_goto ?_
    refine w_step rfl ?_
    refine w_push kc_m1000000001 ?_
    refine w_retI rfl ?_
    exact ⟨ok, fr, (by omega), (by omega)⟩
  refine w_ine (by omega) (fun _ => ?_) (fun h => absurd (by omega) h)
  refine w_step rfl ?_
  refine w_aload rfl ?_
  refine w_getR (g_68_26 _) ?_
  refine w_iload rfl ?_
  refine w_iald (i := (k).toNat) (ai_83 _) (by omega) (by omega) (ae_83 _) ok (fun z3 hz3 hl3 hh3 => ?_)
  refine w_ige (by omega) (fun h4 => ?_) (fun h4 => ?_)
  · skip
    refine w_step rfl ?_
    refine w_push kc_0 ?_
    refine w_istore (lv' := [some (.ref 68), some (.int (jI k)), some (.int (jI w)), some (.int (jI 0)), none, none, none, none, none]) rfl ?_
    refine w_aload rfl ?_
    refine w_iload rfl ?_
    refine w_push kc_0 ?_
    refine w_callV2L (oj_68 _).choose_spec rfl (c_X9_offBy ok q0 (by omega) (by omega) (by omega) (by omega)) ?_
    rintro z5 t5 ⟨ok5, fq5⟩
    have fr5 := fr.then fq5 (by simp)
    have wf5 := q0.fr fq5 (by simp)
    refine w_lstore (lv' := [some (.ref 68), some (.int (jI k)), some (.int (jI w)), some (.int (jI 0)), some (.long z5), none, none, none, none]) rfl ?_
    refine w_push kc_1 ?_
    refine w_istore (lv' := [some (.ref 68), some (.int (jI k)), some (.int (jI w)), some (.int (jI 0)), some (.long z5), none, some (.int (jI 1)), none, none]) rfl ?_
    refine w_goto ?_
    have key4 : ∀ (n4 M4 : Nat) (best : Int) (least : Int64) (r : Int) (o7 : Option Int64) (t6 : TS), OK t6 → Fr [(81, 100), (82, 100)] t t6 → WF t6 69 → (0 ≤ best) → (best ≤ 4) → (1 ≤ r) → (r ≤ 4) → 4 - r < (n4 : Int) → 60 * n4 + (1000) ≤ M4 → Rn (bX9_seen (EX FU (d + 5))) M4 4 [some (.ref 68), some (.int (jI k)), some (.int (jI w)), some (.int (jI best)), some (.long least), none, some (.int (jI r)), dl o7, none] [] (mk t6) (PI (fun z t' => OK t' ∧ Fr [(81, 100), (82, 100)] t t' ∧ (-2147483648 ≤ z) ∧ (z ≤ 2147483647))) := by
      intro n4
      induction n4 with
      | zero => intro M4 best least r o7 t6 ok6 fr6 wf6 i4_0 i4_1 i4_2 i4_3 v4 f4; exfalso; omega
      | succ n4 ih4 =>
        intro M4 best least r o7 t6 ok6 fr6 wf6 i4_0 i4_1 i4_2 i4_3 v4 f4
        obtain ⟨M4, rfl⟩ : ∃ m, M4 = m + 60 := ⟨M4 - 60, by omega⟩
        refine w_step rfl ?_
        refine w_iload rfl ?_
        refine w_push kc_4 ?_
        refine w_cge (by omega) (fun h7 => ?_) (fun h7 => ?_)
        · skip
          refine w_step rfl ?_
          refine w_iload rfl ?_
          refine w_ine (by omega) (fun h8 => ?_) (fun h8 => ?_)
          · skip
            refine w_step rfl ?_
            refine w_lload rfl ?_
            refine w_l2i (fun z9 hl9 hh9 => ?_)
            refine w_goto ?_
            refine w_step rfl ?_
            refine w_retI rfl ?_
            exact ⟨ok6, fr6, (by omega), (by omega)⟩
          refine w_iload rfl ?_
          refine w_goto ?_
          refine w_step rfl ?_
          refine w_retI rfl ?_
          exact ⟨ok6, fr6, (by omega), (by omega)⟩
        refine w_aload rfl ?_
        refine w_iload rfl ?_
        refine w_iload rfl ?_
        refine w_callV2L (oj_68 _).choose_spec rfl (c_X9_offBy ok6 wf6 (by omega) (by omega) (by omega) (by omega)) ?_
        rintro z10 t10 ⟨ok10, fq10⟩
        have fr10 := fr6.then fq10 (by simp)
        have wf10 := wf6.fr fq10 (by simp)
        refine w_lstore (lv' := [some (.ref 68), some (.int (jI k)), some (.int (jI w)), some (.int (jI best)), some (.long least), none, some (.int (jI r)), some (.long z10), none]) rfl ?_
        refine w_lload rfl ?_
        refine w_lload rfl ?_
        refine w_lcmp (fun z11 hl11 hh11 => ?_)
        refine w_ige (by omega) (fun h12 => ?_) (fun h12 => ?_)
        · skip
          refine w_step rfl ?_
          refine w_iload rfl ?_
          refine w_goto ?_
          refine w_step rfl ?_
          refine w_istore (lv' := [some (.ref 68), some (.int (jI k)), some (.int (jI w)), some (.int (jI best)), some (.long least), none, some (.int (jI r)), some (.long z10), none]) rfl ?_
          refine w_lload rfl ?_
          refine w_lload rfl ?_
          refine w_lcmp (fun z13 hl13 hh13 => ?_)
          refine w_ige (by omega) (fun h14 => ?_) (fun h14 => ?_)
          · skip
            refine w_step rfl ?_
            refine w_lload rfl ?_
            refine w_goto ?_
            refine w_step rfl ?_
            refine w_lstore (lv' := [some (.ref 68), some (.int (jI k)), some (.int (jI w)), some (.int (jI best)), some (.long least), none, some (.int (jI r)), some (.long z10), none]) rfl ?_
            refine w_iinc (lv' := [some (.ref 68), some (.int (jI k)), some (.int (jI w)), some (.int (jI best)), some (.long least), none, some (.int (jI (r + 1))), some (.long z10), none]) kc_1 rfl rfl ?_
            refine w_goto ?_
            exact ih4 _ best least (r + 1) (some z10) t10 ok10 fr10 wf10 (by omega) (by omega) (by omega) (by omega) (by omega) (by omega)
          refine w_lload rfl ?_
          refine w_goto ?_
          refine w_step rfl ?_
          refine w_lstore (lv' := [some (.ref 68), some (.int (jI k)), some (.int (jI w)), some (.int (jI best)), some (.long z10), none, some (.int (jI r)), some (.long z10), none]) rfl ?_
          refine w_iinc (lv' := [some (.ref 68), some (.int (jI k)), some (.int (jI w)), some (.int (jI best)), some (.long z10), none, some (.int (jI (r + 1))), some (.long z10), none]) kc_1 rfl rfl ?_
          refine w_goto ?_
          exact ih4 _ best z10 (r + 1) (some z10) t10 ok10 fr10 wf10 (by omega) (by omega) (by omega) (by omega) (by omega) (by omega)
        refine w_iload rfl ?_
        refine w_goto ?_
        refine w_step rfl ?_
        refine w_istore (lv' := [some (.ref 68), some (.int (jI k)), some (.int (jI w)), some (.int (jI r)), some (.long least), none, some (.int (jI r)), some (.long z10), none]) rfl ?_
        refine w_lload rfl ?_
        refine w_lload rfl ?_
        refine w_lcmp (fun z15 hl15 hh15 => ?_)
        refine w_ige (by omega) (fun h16 => ?_) (fun h16 => ?_)
        · skip
          refine w_step rfl ?_
          refine w_lload rfl ?_
          refine w_goto ?_
          refine w_step rfl ?_
          refine w_lstore (lv' := [some (.ref 68), some (.int (jI k)), some (.int (jI w)), some (.int (jI r)), some (.long least), none, some (.int (jI r)), some (.long z10), none]) rfl ?_
          refine w_iinc (lv' := [some (.ref 68), some (.int (jI k)), some (.int (jI w)), some (.int (jI r)), some (.long least), none, some (.int (jI (r + 1))), some (.long z10), none]) kc_1 rfl rfl ?_
          refine w_goto ?_
          exact ih4 _ r least (r + 1) (some z10) t10 ok10 fr10 wf10 (by omega) (by omega) (by omega) (by omega) (by omega) (by omega)
        refine w_lload rfl ?_
        refine w_goto ?_
        refine w_step rfl ?_
        refine w_lstore (lv' := [some (.ref 68), some (.int (jI k)), some (.int (jI w)), some (.int (jI r)), some (.long z10), none, some (.int (jI r)), some (.long z10), none]) rfl ?_
        refine w_iinc (lv' := [some (.ref 68), some (.int (jI k)), some (.int (jI w)), some (.int (jI r)), some (.long z10), none, some (.int (jI (r + 1))), some (.long z10), none]) kc_1 rfl rfl ?_
        refine w_goto ?_
        exact ih4 _ r z10 (r + 1) (some z10) t10 ok10 fr10 wf10 (by omega) (by omega) (by omega) (by omega) (by omega) (by omega)
    exact key4 5 _ 0 z5 1 none t5 ok5 fr5 wf5 (by omega) (by omega) (by omega) (by omega) (by omega) (by omega)
  refine w_push kc_m1000000011 ?_
  refine w_retI rfl ?_
  exact ⟨ok, fr, (by omega), (by omega)⟩
set_option maxRecDepth 100000 in
set_option maxHeartbeats 4000000 in
theorem c_X9_fee {d : Nat} {t : TS}  (ok : OK t) (q0 : WF t 69) : CI (EX FU (d + 6)) 185 [.ref 68] (mk t) (fun z t' => OK t' ∧ Fr [(81, 100), (82, 100)] t t' ∧ (-2147483648 ≤ z) ∧ (z ≤ 2147483647)) := by
  refine CI_ent (d := d + 5) (Bk := bX9_fee) (nL := 3) rfl rfl rfl (Nat.le_of_ble_eq_true rfl) ?_
  show Rn _ 1000000 0 [some (.ref 68), none, none] [] _ _
  have fr : Fr [(81, 100), (82, 100)] t t := Fr.rf _ _
  have hn0 := (ok.a (ax_69 nr_1)).1
  have hn1 := (ok.a (ax_69 nr_1)).2
  refine w_step rfl ?_
  refine w_aload rfl ?_
  refine w_push kc_1 ?_
  refine w_callV1I (oj_68 _).choose_spec rfl (c_X9_counts ok (by omega) (by omega)) ?_
  rintro z1 t1 ⟨rfl, hp1_0, hp1_1, hp1_2⟩
  refine w_istore (lv' := [some (.ref 68), some (.int (jI z1)), none]) rfl ?_
  refine w_aload rfl ?_
  refine w_callV0I (oj_68 _).choose_spec rfl (c_X9_picture ok q0) ?_
  rintro z2 t2 ⟨ok2, fq2, hp2_0, hp2_1⟩
  have fr2 := fr.then fq2 (by simp)
  have wf2 := q0.fr fq2 (by simp)
  refine w_istore (lv' := [some (.ref 68), some (.int (jI z1)), some (.int (jI z2))]) rfl ?_
  refine w_aload rfl ?_
  refine w_getR (g_68_25 _) ?_
  refine w_push kc_0 ?_
  refine w_iload rfl ?_
  refine w_iast (i := 0) (ai_82 _) rfl (by omega) (by omega) (ae_82 _) ok2 (by omega) (fun t3 ht3 ok3 => ?_)
  have fr3 := fr2.uA ht3 (by simp)
  have wf3 := wf2.uAo ht3 (by decide)
  refine w_aload rfl ?_
  refine w_getR (g_68_25 _) ?_
  refine w_push kc_1 ?_
  refine w_aload rfl ?_
  refine w_callV0I (oj_68 _).choose_spec rfl (c_X9_matches ok3) ?_
  rintro z4 t4 ⟨rfl, hp4_0, hp4_1⟩
  refine w_iast (i := 1) (ai_82 _) rfl (by omega) (by omega) (ae_82 _) ok3 (by omega) (fun t5 ht5 ok5 => ?_)
  have fr5 := fr3.uA ht5 (by simp)
  have wf5 := wf3.uAo ht5 (by decide)
  refine w_iload rfl ?_
  refine w_ige (by omega) (fun h6 => ?_) (fun h6 => ?_)
  · skip
    refine w_step rfl ?_
    refine w_aload rfl ?_
    refine w_iload rfl ?_
    refine w_callV1I (oj_68 _).choose_spec rfl (c_X9_worksOut ok5 wf5 (by omega) (by have h4 := fr5.2.1 69 (by simp) 4; omega)) ?_
    rintro z7 t7 ⟨ok7, fq7, hp7_0, hp7_1⟩
    have fr7 := fr5.then fq7 (by simp)
    have wf7 := wf5.fr fq7 (by simp)
    refine w_goto ?_
    refine w_step rfl ?_
    refine w_retI rfl ?_
    exact ⟨ok7, fr7, (by omega), (by omega)⟩
  refine w_iload rfl ?_
  refine w_goto ?_
  refine w_step rfl ?_
  refine w_retI rfl ?_
  exact ⟨ok5, fr5, (by omega), (by omega)⟩
set_option maxRecDepth 100000 in
set_option maxHeartbeats 4000000 in
theorem c_X9_fine {d : Nat} {t : TS} {s : Int}  (ok : OK t) (q0 : WF t 69) (q1 : -2147483648 ≤ s) (q2 : s ≤ 2147483647) : CI (EX FU (d + 3)) 186 [.ref 68, .int (jI s)] (mk t) (fun z t' => OK t' ∧ Fr [(81, 100), (82, 100)] t t' ∧ (-2147483648 ≤ z) ∧ (z ≤ 2147483647)) := by
  refine CI_ent (d := d + 2) (Bk := bX9_fine) (nL := 3) rfl rfl rfl (Nat.le_of_ble_eq_true rfl) ?_
  show Rn _ 1000000 0 [some (.ref 68), some (.int (jI s)), none] [] _ _
  have fr : Fr [(81, 100), (82, 100)] t t := Fr.rf _ _
  have hn0 := (ok.a (ax_69 nr_1)).1
  have hn1 := (ok.a (ax_69 nr_1)).2
  refine w_step rfl ?_
  refine w_aload rfl ?_
  refine w_iload rfl ?_
  refine w_callV1I (oj_68 _).choose_spec rfl (c_X9_isStone ok (by omega) (by omega)) ?_
  rintro z1 t1 ⟨rfl, hp1_0⟩
  rcases hp1_0 with ⟨rfl, hp1_0⟩ | ⟨rfl, hp1_0⟩
  · skip
    refine w_ine (by omega) (fun h => absurd h (by omega)) (fun _ => ?_)
    refine w_push kc_m1000000001 ?_
    refine w_retI rfl ?_
    exact ⟨ok, fr, (by omega), (by omega)⟩
  refine w_ine (by omega) (fun _ => ?_) (fun h => absurd (by omega) h)
  refine w_step rfl ?_
  refine w_aload rfl ?_
  refine w_push kc_2 ?_
  refine w_callV1I (oj_68 _).choose_spec rfl (c_X9_counts ok (by omega) (by omega)) ?_
  rintro z2 t2 ⟨rfl, hp2_0, hp2_1, hp2_2⟩
  refine w_istore (lv' := [some (.ref 68), some (.int (jI s)), some (.int (jI z2))]) rfl ?_
  refine w_aload rfl ?_
  refine w_getR (g_68_25 _) ?_
  refine w_push kc_0 ?_
  refine w_aload rfl ?_
  refine w_iload rfl ?_
  refine w_push kc_1 ?_
  refine w_callV2I (oj_68 _).choose_spec rfl (c_X9_of ok (by omega) (by omega) (by omega) (by omega)) ?_
  rintro z3 t3 ⟨rfl, hp3_0, hp3_1, hp3_2⟩
  have hr3 := of_r1 (s := s) ok (by omega)
  refine w_iast (i := 0) (ai_82 _) rfl (by omega) (by omega) (ae_82 _) ok (by omega) (fun t4 ht4 ok4 => ?_)
  have fr4 := fr.uA ht4 (by simp)
  have wf4 := q0.uAo ht4 (by decide)
  refine w_aload rfl ?_
  refine w_getR (g_68_25 _) ?_
  refine w_push kc_1 ?_
  refine w_aload rfl ?_
  refine w_iload rfl ?_
  refine w_push kc_2 ?_
  refine w_callV2I (oj_68 _).choose_spec rfl (c_X9_of ok4 (by omega) (by omega) (by omega) (by omega)) ?_
  rintro z5 t5 ⟨rfl, hp5_0, hp5_1, hp5_2⟩
  have hr5 := of_r2 (s := s) ok4 (by omega)
  refine w_iast (i := 1) (ai_82 _) rfl (by omega) (by omega) (ae_82 _) ok4 (by omega) (fun t6 ht6 ok6 => ?_)
  have fr6 := fr4.uA ht6 (by simp)
  have wf6 := wf4.uAo ht6 (by decide)
  refine w_aload rfl ?_
  refine w_getR (g_68_25 _) ?_
  refine w_push kc_2 ?_
  refine w_aload rfl ?_
  refine w_iload rfl ?_
  refine w_push kc_4 ?_
  refine w_callV2I (oj_68 _).choose_spec rfl (c_X9_of ok6 (by omega) (by omega) (by omega) (by omega)) ?_
  rintro z7 t7 ⟨rfl, hp7_0, hp7_1, hp7_2⟩
  have hr7 := of_r4 (s := s) ok6 (by omega)
  refine w_iast (i := 2) (ai_82 _) rfl (by omega) (by omega) (ae_82 _) ok6 (by omega) (fun t8 ht8 ok8 => ?_)
  have fr8 := fr6.uA ht8 (by simp)
  have wf8 := wf6.uAo ht8 (by decide)
  refine w_iload rfl ?_
  refine w_ige (by omega) (fun h9 => ?_) (fun h9 => ?_)
  · skip
    refine w_step rfl ?_
    refine w_aload rfl ?_
    refine w_iload rfl ?_
    refine w_callV1I (oj_68 _).choose_spec rfl (c_X9_worksOut ok8 wf8 (by omega) (by have h4 := fr8.2.1 69 (by simp) 4; omega)) ?_
    rintro z10 t10 ⟨ok10, fq10, hp10_0, hp10_1⟩
    have fr10 := fr8.then fq10 (by simp)
    have wf10 := wf8.fr fq10 (by simp)
    refine w_goto ?_
    refine w_step rfl ?_
    refine w_retI rfl ?_
    exact ⟨ok10, fr10, (by omega), (by omega)⟩
  refine w_aload rfl ?_
  refine w_iload rfl ?_
  refine w_push kc_1 ?_
  refine w_callV2I (oj_68 _).choose_spec rfl (c_X9_of ok8 (by omega) (by omega) (by omega) (by omega)) ?_
  rintro z11 t11 ⟨rfl, hp11_0, hp11_1, hp11_2⟩
  have hr11 := of_r1 (s := s) ok8 (by omega)
  refine w_goto ?_
  refine w_step rfl ?_
  refine w_retI rfl ?_
  exact ⟨ok8, fr8, (by omega), (by omega)⟩
