set_option maxRecDepth 100000 in
set_option maxHeartbeats 4000000 in
theorem c_X8_sheet {d : Nat} {t : TS} {k s n : Int}  (ok : OK t) (q0 : -2147483648 ≤ k) (q1 : k ≤ 2147483647) (q2 : -2147483648 ≤ s) (q3 : s ≤ 2147483647) (q4 : -2147483648 ≤ n) (q5 : n ≤ 2147483647) : CI (EX FU (d + 3)) 105 [.ref 0, .int (jI k), .int (jI s), .int (jI n)] (mk t) (fun z t' => OK t' ∧ Fr [((45 + 2 * k.toNat), 1), ((45 + 2 * k.toNat), 2), ((45 + 2 * k.toNat) + 1, 100)] t t' ∧ (((¬ (0 ≤ k ∧ k ≤ 3 ∧ -1 ≤ s ∧ s ≤ 1)) ∧ z = (-1000000001) ∧ t' = t) ∨ ((0 ≤ k ∧ k ≤ 3) ∧ (s = -1) ∧ z = 0 ∧ (tI t' (45 + 2 * k.toNat) 1 = s) ∧ (tI t' (45 + 2 * k.toNat) 2 = 0) ∧ (∀ i : Nat, i < 24 → tA t' ((45 + 2 * k.toNat) + 1) i = 0)) ∨ ((0 ≤ k ∧ k ≤ 3) ∧ (0 ≤ s ∧ s ≤ 1) ∧ (24 < n) ∧ z = (-1000000001) ∧ t' = t) ∨ ((0 ≤ k ∧ k ≤ 3) ∧ (0 ≤ s ∧ s ≤ 1) ∧ (n < 0) ∧ z = (-1000000014) ∧ t' = t) ∨ ((0 ≤ k ∧ k ≤ 3) ∧ (0 ≤ s ∧ s ≤ 1) ∧ (0 ≤ n ∧ n ≤ 24) ∧ z = n ∧ (tI t' (45 + 2 * k.toNat) 1 = s) ∧ (tI t' (45 + 2 * k.toNat) 2 = n) ∧ (∀ i : Nat, i < 24 → tA t' ((45 + 2 * k.toNat) + 1) i = 0)))) := by
  refine CI_ent (d := d + 2) (Bk := bX8_sheet) (nL := 4) rfl rfl rfl (Nat.le_of_ble_eq_true rfl) ?_
  show Rn _ 1000000 0 [some (.ref 0), some (.int (jI k)), some (.int (jI s)), some (.int (jI n))] [] _ _
  have fr : Fr [((45 + 2 * k.toNat), 1), ((45 + 2 * k.toNat), 2), ((45 + 2 * k.toNat) + 1, 100)] t t := Fr.rf _ _
  have hn0 := (ok.f fe_1_10).1
  have hn1 := (ok.f fe_1_10).2
  refine w_step rfl ?_
  refine w_iload rfl ?_
  refine w_callS1I rfl (c_X8_isSheet ok (by omega) (by omega)) ?_
  rintro z1 t1 ⟨rfl, hp1_0⟩
  rcases hp1_0 with ⟨rfl, hp1_0⟩ | ⟨rfl, hp1_0⟩
  · skip
    refine w_ieq (by omega) (fun _ => ?_) (fun h => absurd (by omega) h)
    refine w_step rfl ?_
    refine w_push kc_m1000000001 ?_
    refine w_retI rfl ?_
    exact ⟨ok, fr, (by first | (exact Or.inl ⟨by omega, by first | omega | (subst_vars; rfl), rfl⟩) | (exact Or.inr (Or.inl ⟨by omega, by omega, by first | omega | (subst_vars; rfl), by omega, by omega, e3⟩)) | (exact Or.inr (Or.inr (Or.inl ⟨by omega, by omega, by omega, by first | omega | (subst_vars; rfl), rfl⟩))) | (exact Or.inr (Or.inr (Or.inr (Or.inl ⟨by omega, by omega, by omega, by first | omega | (subst_vars; rfl), rfl⟩)))) | (exact Or.inr (Or.inr (Or.inr (Or.inr (⟨by omega, by omega, by omega, by first | omega | (subst_vars; rfl), by omega, by omega, e3⟩))))))⟩
  refine w_ieq (by omega) (fun h => absurd h (by omega)) (fun _ => ?_)
  refine w_iload rfl ?_
  refine w_push kc_m1 ?_
  refine w_push kc_1 ?_
  refine w_callS3I rfl (c_X8_within ok (by omega) (by omega) (by omega) (by omega) (by omega) (by omega)) ?_
  rintro z2 t2 ⟨rfl, hp2_0⟩
  rcases hp2_0 with ⟨rfl, hp2_0⟩ | ⟨rfl, hp2_0⟩
  · skip
    refine w_ine (by omega) (fun h => absurd h (by omega)) (fun _ => ?_)
    refine w_goto ?_
    refine w_step rfl ?_
    refine w_push kc_m1000000001 ?_
    refine w_retI rfl ?_
    exact ⟨ok, fr, (by first | (exact Or.inl ⟨by omega, by first | omega | (subst_vars; rfl), rfl⟩) | (exact Or.inr (Or.inl ⟨by omega, by omega, by first | omega | (subst_vars; rfl), by omega, by omega, e3⟩)) | (exact Or.inr (Or.inr (Or.inl ⟨by omega, by omega, by omega, by first | omega | (subst_vars; rfl), rfl⟩))) | (exact Or.inr (Or.inr (Or.inr (Or.inl ⟨by omega, by omega, by omega, by first | omega | (subst_vars; rfl), rfl⟩)))) | (exact Or.inr (Or.inr (Or.inr (Or.inr (⟨by omega, by omega, by omega, by first | omega | (subst_vars; rfl), by omega, by omega, e3⟩))))))⟩
  refine w_ine (by omega) (fun _ => ?_) (fun h => absurd (by omega) h)
  refine w_step rfl ?_
  refine w_iload rfl ?_
  refine w_push kc_m1 ?_
  refine w_cne (by omega) (fun h3 => ?_) (fun h3 => ?_)
  · skip
    refine w_step rfl ?_
    refine w_iload rfl ?_
    refine w_push kc_24 ?_
    refine w_cle (by omega) (fun h4 => ?_) (fun h4 => ?_)
    · skip
      refine w_step rfl ?_
      refine w_iload rfl ?_
      refine w_ige (by omega) (fun h5 => ?_) (fun h5 => ?_)
      · skip
        refine w_step rfl ?_
        refine w_aload rfl ?_
        refine w_getR (g_0_5 _) ?_
        refine w_iload rfl ?_
        refine w_sheets (i := (k).toNat) (by omega) (by omega) ?_
        refine w_iload rfl ?_
        refine w_iload rfl ?_
        refine w_callV2V (ojH (isH_s (i := (k).toNat) (by omega)) _).choose_spec rfl (c_X2_become (isH_s (i := (k).toNat) (by omega)) ok (by omega) (by omega) (by omega) (by omega)) ?_
        rintro t6 ⟨ok6, fq6, hp6_0, hp6_1, hp6_2⟩
        have fr6 := fr.then fq6 (by simp)
        have e1 := hp6_0
        have e2 := hp6_1
        have e3 := hp6_2
        refine w_iload rfl ?_
        refine w_retI rfl ?_
        exact ⟨ok6, fr6, (by first | (exact Or.inl ⟨by omega, by first | omega | (subst_vars; rfl), rfl⟩) | (exact Or.inr (Or.inl ⟨by omega, by omega, by first | omega | (subst_vars; rfl), by omega, by omega, e3⟩)) | (exact Or.inr (Or.inr (Or.inl ⟨by omega, by omega, by omega, by first | omega | (subst_vars; rfl), rfl⟩))) | (exact Or.inr (Or.inr (Or.inr (Or.inl ⟨by omega, by omega, by omega, by first | omega | (subst_vars; rfl), rfl⟩)))) | (exact Or.inr (Or.inr (Or.inr (Or.inr (⟨by omega, by omega, by omega, by first | omega | (subst_vars; rfl), by omega, by omega, e3⟩))))))⟩
      refine w_push kc_m1000000014 ?_
      refine w_retI rfl ?_
      exact ⟨ok, fr, (by first | (exact Or.inl ⟨by omega, by first | omega | (subst_vars; rfl), rfl⟩) | (exact Or.inr (Or.inl ⟨by omega, by omega, by first | omega | (subst_vars; rfl), by omega, by omega, e3⟩)) | (exact Or.inr (Or.inr (Or.inl ⟨by omega, by omega, by omega, by first | omega | (subst_vars; rfl), rfl⟩))) | (exact Or.inr (Or.inr (Or.inr (Or.inl ⟨by omega, by omega, by omega, by first | omega | (subst_vars; rfl), rfl⟩)))) | (exact Or.inr (Or.inr (Or.inr (Or.inr (⟨by omega, by omega, by omega, by first | omega | (subst_vars; rfl), by omega, by omega, e3⟩))))))⟩
    refine w_push kc_m1000000001 ?_
    refine w_retI rfl ?_
    exact ⟨ok, fr, (by first | (exact Or.inl ⟨by omega, by first | omega | (subst_vars; rfl), rfl⟩) | (exact Or.inr (Or.inl ⟨by omega, by omega, by first | omega | (subst_vars; rfl), by omega, by omega, e3⟩)) | (exact Or.inr (Or.inr (Or.inl ⟨by omega, by omega, by omega, by first | omega | (subst_vars; rfl), rfl⟩))) | (exact Or.inr (Or.inr (Or.inr (Or.inl ⟨by omega, by omega, by omega, by first | omega | (subst_vars; rfl), rfl⟩)))) | (exact Or.inr (Or.inr (Or.inr (Or.inr (⟨by omega, by omega, by omega, by first | omega | (subst_vars; rfl), by omega, by omega, e3⟩))))))⟩
  refine w_aload rfl ?_
  refine w_getR (g_0_5 _) ?_
  refine w_iload rfl ?_
  refine w_sheets (i := (k).toNat) (by omega) (by omega) ?_
  refine w_push kc_m1 ?_
  refine w_push kc_0 ?_
  refine w_callV2V (ojH (isH_s (i := (k).toNat) (by omega)) _).choose_spec rfl (c_X2_become (isH_s (i := (k).toNat) (by omega)) ok (by omega) (by omega) (by omega) (by omega)) ?_
  rintro t7 ⟨ok7, fq7, hp7_0, hp7_1, hp7_2⟩
  have fr7 := fr.then fq7 (by simp)
  have e1 := hp7_0
  have e2 := hp7_1
  have e3 := hp7_2
  refine w_push kc_0 ?_
  refine w_retI rfl ?_
  exact ⟨ok7, fr7, (by first | (exact Or.inl ⟨by omega, by first | omega | (subst_vars; rfl), rfl⟩) | (exact Or.inr (Or.inl ⟨by omega, by omega, by first | omega | (subst_vars; rfl), by omega, by omega, e3⟩)) | (exact Or.inr (Or.inr (Or.inl ⟨by omega, by omega, by omega, by first | omega | (subst_vars; rfl), rfl⟩))) | (exact Or.inr (Or.inr (Or.inr (Or.inl ⟨by omega, by omega, by omega, by first | omega | (subst_vars; rfl), rfl⟩)))) | (exact Or.inr (Or.inr (Or.inr (Or.inr (⟨by omega, by omega, by omega, by first | omega | (subst_vars; rfl), by omega, by omega, e3⟩))))))⟩
set_option maxRecDepth 100000 in
set_option maxHeartbeats 4000000 in
theorem c_X8_mark {d : Nat} {t : TS} {k p v : Int}  (ok : OK t) (q0 : -2147483648 ≤ k) (q1 : k ≤ 2147483647) (q2 : -2147483648 ≤ p) (q3 : p ≤ 2147483647) (q4 : -2147483648 ≤ v) (q5 : v ≤ 2147483647) : CI (EX FU (d + 3)) 106 [.ref 0, .int (jI k), .int (jI p), .int (jI v)] (mk t) (fun z t' => OK t' ∧ Fr [((45 + 2 * k.toNat) + 1, 100)] t t' ∧ (((¬ (0 ≤ k ∧ k ≤ 3)) ∧ z = (-1000000001) ∧ t' = t) ∨ ((0 ≤ k ∧ k ≤ 3) ∧ (tI t (45 + 2 * k.toNat) 1 = -1) ∧ z = (-1000000011) ∧ t' = t) ∨ ((0 ≤ k ∧ k ≤ 3) ∧ (¬ tI t (45 + 2 * k.toNat) 1 = -1) ∧ (¬ (0 ≤ p ∧ p ≤ tI t (45 + 2 * k.toNat) 2 - 1)) ∧ z = (-1000000013) ∧ t' = t) ∨ ((0 ≤ k ∧ k ≤ 3) ∧ (tI t (45 + 2 * k.toNat) 1 = 0) ∧ (0 ≤ p ∧ p ≤ tI t (45 + 2 * k.toNat) 2 - 1) ∧ (v = (-1000000005)) ∧ z = (-1000000012) ∧ t' = t) ∨ ((0 ≤ k ∧ k ≤ 3) ∧ (tI t (45 + 2 * k.toNat) 1 = 0) ∧ (0 ≤ p ∧ p ≤ tI t (45 + 2 * k.toNat) 2 - 1) ∧ (¬ v = (-1000000005)) ∧ z = 1 ∧ (t' = uA t ((45 + 2 * k.toNat) + 1) p.toNat (shF v))) ∨ ((0 ≤ k ∧ k ≤ 3) ∧ (tI t (45 + 2 * k.toNat) 1 = 1) ∧ (0 ≤ p ∧ p ≤ tI t (45 + 2 * k.toNat) 2 - 1) ∧ (¬ v = (-1000000005)) ∧ (¬ (-99999 ≤ v ∧ v ≤ 99999)) ∧ z = (-1000000001) ∧ t' = t) ∨ ((0 ≤ k ∧ k ≤ 3) ∧ (tI t (45 + 2 * k.toNat) 1 = 1) ∧ (0 ≤ p ∧ p ≤ tI t (45 + 2 * k.toNat) 2 - 1) ∧ (v = (-1000000005) ∨ (-99999 ≤ v ∧ v ≤ 99999)) ∧ z = 1 ∧ (t' = uA t ((45 + 2 * k.toNat) + 1) p.toNat v)))) := by
  refine CI_ent (d := d + 2) (Bk := bX8_mark) (nL := 5) rfl rfl rfl (Nat.le_of_ble_eq_true rfl) ?_
  show Rn _ 1000000 0 [some (.ref 0), some (.int (jI k)), some (.int (jI p)), some (.int (jI v)), none] [] _ _
  have fr : Fr [((45 + 2 * k.toNat) + 1, 100)] t t := Fr.rf _ _
  have hn0 := (ok.f fe_1_10).1
  have hn1 := (ok.f fe_1_10).2
  refine w_step rfl ?_
  refine w_iload rfl ?_
  refine w_callS1I rfl (c_X8_isSheet ok (by omega) (by omega)) ?_
  rintro z1 t1 ⟨rfl, hp1_0⟩
  rcases hp1_0 with ⟨rfl, hp1_0⟩ | ⟨rfl, hp1_0⟩
  · skip
    refine w_ine (by omega) (fun h => absurd h (by omega)) (fun _ => ?_)
    refine w_push kc_m1000000001 ?_
    refine w_retI rfl ?_
    exact ⟨ok, fr, (by first | (exact Or.inl ⟨by omega, by first | omega | (subst_vars; rfl), rfl⟩) | (exact Or.inr (Or.inl ⟨by omega, by omega, by first | omega | (subst_vars; rfl), rfl⟩)) | (exact Or.inr (Or.inr (Or.inl ⟨by omega, by omega, by omega, by first | omega | (subst_vars; rfl), rfl⟩))) | (exact Or.inr (Or.inr (Or.inr (Or.inl ⟨by omega, by omega, by omega, by omega, by first | omega | (subst_vars; rfl), rfl⟩)))) | (exact Or.inr (Or.inr (Or.inr (Or.inr (Or.inl ⟨by omega, by omega, by omega, by omega, by first | omega | (subst_vars; rfl), by subst_vars; rfl⟩))))) | (exact Or.inr (Or.inr (Or.inr (Or.inr (Or.inr (Or.inl ⟨by omega, by omega, by omega, by omega, by omega, by first | omega | (subst_vars; rfl), rfl⟩)))))) | (exact Or.inr (Or.inr (Or.inr (Or.inr (Or.inr (Or.inr (⟨by omega, by omega, by omega, by omega, by first | omega | (subst_vars; rfl), by subst_vars; rfl⟩))))))))⟩
  refine w_ine (by omega) (fun _ => ?_) (fun h => absurd (by omega) h)
  refine w_step rfl ?_
  refine w_aload rfl ?_
  refine w_getR (g_0_5 _) ?_
  refine w_iload rfl ?_
  refine w_sheets (i := (k).toNat) (by omega) (by omega) ?_
  refine w_astore (lv' := [some (.ref 0), some (.int (jI k)), some (.int (jI p)), some (.int (jI v)), some (.ref (45 + 2 * (k).toNat))]) rfl ?_
  refine w_aload rfl ?_
  refine w_callV0I (ojH (isH_s (i := (k).toNat) (by omega)) _).choose_spec rfl (c_X2_isMissing (isH_s (i := (k).toNat) (by omega)) ok) ?_
  rintro z2 t2 ⟨rfl, hp2_0⟩
  rcases hp2_0 with ⟨rfl, hp2_0⟩ | ⟨rfl, hp2_0⟩
  · skip
    refine w_ieq (by omega) (fun _ => ?_) (fun h => absurd (by omega) h)
    refine w_step rfl ?_
    refine w_iload rfl ?_
    refine w_push kc_0 ?_
    refine w_aload rfl ?_
    refine w_getI (gH_2 (isH_s (i := (k).toNat) (by omega)) _) (feH_2 (isH_s (i := (k).toNat) (by omega))) ok (fun z3 hz3 hl3 hh3 => ?_)
    refine w_push kc_1 ?_
    refine w_sub ?_
    refine w_callS3I rfl (c_X8_within ok (by omega) (by omega) (by omega) (by omega) (by omega) (by omega)) ?_
    rintro z4 t4 ⟨rfl, hp4_0⟩
    rcases hp4_0 with ⟨rfl, hp4_0⟩ | ⟨rfl, hp4_0⟩
    · skip
      refine w_ine (by omega) (fun h => absurd h (by omega)) (fun _ => ?_)
      refine w_push kc_m1000000013 ?_
      refine w_retI rfl ?_
      exact ⟨ok, fr, (by first | (exact Or.inl ⟨by omega, by first | omega | (subst_vars; rfl), rfl⟩) | (exact Or.inr (Or.inl ⟨by omega, by omega, by first | omega | (subst_vars; rfl), rfl⟩)) | (exact Or.inr (Or.inr (Or.inl ⟨by omega, by omega, by omega, by first | omega | (subst_vars; rfl), rfl⟩))) | (exact Or.inr (Or.inr (Or.inr (Or.inl ⟨by omega, by omega, by omega, by omega, by first | omega | (subst_vars; rfl), rfl⟩)))) | (exact Or.inr (Or.inr (Or.inr (Or.inr (Or.inl ⟨by omega, by omega, by omega, by omega, by first | omega | (subst_vars; rfl), by subst_vars; rfl⟩))))) | (exact Or.inr (Or.inr (Or.inr (Or.inr (Or.inr (Or.inl ⟨by omega, by omega, by omega, by omega, by omega, by first | omega | (subst_vars; rfl), rfl⟩)))))) | (exact Or.inr (Or.inr (Or.inr (Or.inr (Or.inr (Or.inr (⟨by omega, by omega, by omega, by omega, by first | omega | (subst_vars; rfl), by subst_vars; rfl⟩))))))))⟩
    refine w_ine (by omega) (fun _ => ?_) (fun h => absurd (by omega) h)
    refine w_step rfl ?_
    refine w_aload rfl ?_
    refine w_getI (gH_1 (isH_s (i := (k).toNat) (by omega)) _) (feH_1 (isH_s (i := (k).toNat) (by omega))) ok (fun z5 hz5 hl5 hh5 => ?_)
    refine w_ine (by omega) (fun h6 => ?_) (fun h6 => ?_)
    · skip
      refine w_step rfl ?_
      refine w_iload rfl ?_
      refine w_push kc_m1000000005 ?_
      refine w_ceq (by omega) (fun h7 => ?_) (fun h7 => ?_)
      · skip
        refine w_step rfl ?_
        refine w_aload rfl ?_
        refine w_iload rfl ?_
        refine w_iload rfl ?_
        refine w_callV2I (ojH (isH_s (i := (k).toNat) (by omega)) _).choose_spec rfl (c_X2_write (isH_s (i := (k).toNat) (by omega)) ok (by omega) (by omega) (by omega) (by omega)) ?_
        rintro z8 t8 ⟨ok8, fq8, hp8_0, hp8_1⟩
        have fr8 := fr.then fq8 (by simp)
        refine w_retI rfl ?_
        exact ⟨ok8, fr8, (by first | (exact Or.inl ⟨by omega, by first | omega | (subst_vars; rfl), rfl⟩) | (exact Or.inr (Or.inl ⟨by omega, by omega, by first | omega | (subst_vars; rfl), rfl⟩)) | (exact Or.inr (Or.inr (Or.inl ⟨by omega, by omega, by omega, by first | omega | (subst_vars; rfl), rfl⟩))) | (exact Or.inr (Or.inr (Or.inr (Or.inl ⟨by omega, by omega, by omega, by omega, by first | omega | (subst_vars; rfl), rfl⟩)))) | (exact Or.inr (Or.inr (Or.inr (Or.inr (Or.inl ⟨by omega, by omega, by omega, by omega, by first | omega | (subst_vars; rfl), by subst_vars; rfl⟩))))) | (exact Or.inr (Or.inr (Or.inr (Or.inr (Or.inr (Or.inl ⟨by omega, by omega, by omega, by omega, by omega, by first | omega | (subst_vars; rfl), rfl⟩)))))) | (exact Or.inr (Or.inr (Or.inr (Or.inr (Or.inr (Or.inr (⟨by omega, by omega, by omega, by omega, by first | omega | (subst_vars; rfl), by subst_vars; rfl⟩))))))))⟩
      refine w_iload rfl ?_
      refine w_push kc_m99999 ?_
      refine w_push kc_99999 ?_
      refine w_callS3I rfl (c_X8_within ok (by omega) (by omega) (by omega) (by omega) (by omega) (by omega)) ?_
      rintro z9 t9 ⟨rfl, hp9_0⟩
      rcases hp9_0 with ⟨rfl, hp9_0⟩ | ⟨rfl, hp9_0⟩
      · skip
        refine w_ine (by omega) (fun h => absurd h (by omega)) (fun _ => ?_)
        refine w_push kc_m1000000001 ?_
        refine w_retI rfl ?_
        exact ⟨ok, fr, (by first | (exact Or.inl ⟨by omega, by first | omega | (subst_vars; rfl), rfl⟩) | (exact Or.inr (Or.inl ⟨by omega, by omega, by first | omega | (subst_vars; rfl), rfl⟩)) | (exact Or.inr (Or.inr (Or.inl ⟨by omega, by omega, by omega, by first | omega | (subst_vars; rfl), rfl⟩))) | (exact Or.inr (Or.inr (Or.inr (Or.inl ⟨by omega, by omega, by omega, by omega, by first | omega | (subst_vars; rfl), rfl⟩)))) | (exact Or.inr (Or.inr (Or.inr (Or.inr (Or.inl ⟨by omega, by omega, by omega, by omega, by first | omega | (subst_vars; rfl), by subst_vars; rfl⟩))))) | (exact Or.inr (Or.inr (Or.inr (Or.inr (Or.inr (Or.inl ⟨by omega, by omega, by omega, by omega, by omega, by first | omega | (subst_vars; rfl), rfl⟩)))))) | (exact Or.inr (Or.inr (Or.inr (Or.inr (Or.inr (Or.inr (⟨by omega, by omega, by omega, by omega, by first | omega | (subst_vars; rfl), by subst_vars; rfl⟩))))))))⟩
      refine w_ine (by omega) (fun _ => ?_) (fun h => absurd (by omega) h)
      refine w_step rfl ?_
      refine w_aload rfl ?_
      refine w_iload rfl ?_
      refine w_iload rfl ?_
      refine w_callV2I (ojH (isH_s (i := (k).toNat) (by omega)) _).choose_spec rfl (c_X2_write (isH_s (i := (k).toNat) (by omega)) ok (by omega) (by omega) (by omega) (by omega)) ?_
      rintro z10 t10 ⟨ok10, fq10, hp10_0, hp10_1⟩
      have fr10 := fr.then fq10 (by simp)
      refine w_retI rfl ?_
      exact ⟨ok10, fr10, (by first | (exact Or.inl ⟨by omega, by first | omega | (subst_vars; rfl), rfl⟩) | (exact Or.inr (Or.inl ⟨by omega, by omega, by first | omega | (subst_vars; rfl), rfl⟩)) | (exact Or.inr (Or.inr (Or.inl ⟨by omega, by omega, by omega, by first | omega | (subst_vars; rfl), rfl⟩))) | (exact Or.inr (Or.inr (Or.inr (Or.inl ⟨by omega, by omega, by omega, by omega, by first | omega | (subst_vars; rfl), rfl⟩)))) | (exact Or.inr (Or.inr (Or.inr (Or.inr (Or.inl ⟨by omega, by omega, by omega, by omega, by first | omega | (subst_vars; rfl), by subst_vars; rfl⟩))))) | (exact Or.inr (Or.inr (Or.inr (Or.inr (Or.inr (Or.inl ⟨by omega, by omega, by omega, by omega, by omega, by first | omega | (subst_vars; rfl), rfl⟩)))))) | (exact Or.inr (Or.inr (Or.inr (Or.inr (Or.inr (Or.inr (⟨by omega, by omega, by omega, by omega, by first | omega | (subst_vars; rfl), by subst_vars; rfl⟩))))))))⟩
    refine w_iload rfl ?_
    refine w_push kc_m1000000005 ?_
    refine w_cne (by omega) (fun h11 => ?_) (fun h11 => ?_)
    · skip
      refine w_step rfl ?_
      refine w_aload rfl ?_
      refine w_iload rfl ?_
      refine w_iload rfl ?_
      refine w_un (fun z12 hz12 hl12 hh12 => ?_)
      refine w_callV2I (ojH (isH_s (i := (k).toNat) (by omega)) _).choose_spec rfl (c_X2_write (isH_s (i := (k).toNat) (by omega)) ok (by omega) (by omega) (by omega) (by omega)) ?_
      rintro z13 t13 ⟨ok13, fq13, hp13_0, hp13_1⟩
      have fr13 := fr.then fq13 (by simp)
      refine w_goto ?_
      refine w_step rfl ?_
      refine w_retI rfl ?_
      exact ⟨ok13, fr13, (by first | (exact Or.inl ⟨by omega, by first | omega | (subst_vars; rfl), rfl⟩) | (exact Or.inr (Or.inl ⟨by omega, by omega, by first | omega | (subst_vars; rfl), rfl⟩)) | (exact Or.inr (Or.inr (Or.inl ⟨by omega, by omega, by omega, by first | omega | (subst_vars; rfl), rfl⟩))) | (exact Or.inr (Or.inr (Or.inr (Or.inl ⟨by omega, by omega, by omega, by omega, by first | omega | (subst_vars; rfl), rfl⟩)))) | (exact Or.inr (Or.inr (Or.inr (Or.inr (Or.inl ⟨by omega, by omega, by omega, by omega, by first | omega | (subst_vars; rfl), by subst_vars; rfl⟩))))) | (exact Or.inr (Or.inr (Or.inr (Or.inr (Or.inr (Or.inl ⟨by omega, by omega, by omega, by omega, by omega, by first | omega | (subst_vars; rfl), rfl⟩)))))) | (exact Or.inr (Or.inr (Or.inr (Or.inr (Or.inr (Or.inr (⟨by omega, by omega, by omega, by omega, by first | omega | (subst_vars; rfl), by subst_vars; rfl⟩))))))))⟩
    refine w_push kc_m1000000012 ?_
    refine w_goto ?_
    refine w_step rfl ?_
    refine w_retI rfl ?_
    exact ⟨ok, fr, (by first | (exact Or.inl ⟨by omega, by first | omega | (subst_vars; rfl), rfl⟩) | (exact Or.inr (Or.inl ⟨by omega, by omega, by first | omega | (subst_vars; rfl), rfl⟩)) | (exact Or.inr (Or.inr (Or.inl ⟨by omega, by omega, by omega, by first | omega | (subst_vars; rfl), rfl⟩))) | (exact Or.inr (Or.inr (Or.inr (Or.inl ⟨by omega, by omega, by omega, by omega, by first | omega | (subst_vars; rfl), rfl⟩)))) | (exact Or.inr (Or.inr (Or.inr (Or.inr (Or.inl ⟨by omega, by omega, by omega, by omega, by first | omega | (subst_vars; rfl), by subst_vars; rfl⟩))))) | (exact Or.inr (Or.inr (Or.inr (Or.inr (Or.inr (Or.inl ⟨by omega, by omega, by omega, by omega, by omega, by first | omega | (subst_vars; rfl), rfl⟩)))))) | (exact Or.inr (Or.inr (Or.inr (Or.inr (Or.inr (Or.inr (⟨by omega, by omega, by omega, by omega, by first | omega | (subst_vars; rfl), by subst_vars; rfl⟩))))))))⟩
  refine w_ieq (by omega) (fun h => absurd h (by omega)) (fun _ => ?_)
  refine w_push kc_m1000000011 ?_
  refine w_retI rfl ?_
  exact ⟨ok, fr, (by first | (exact Or.inl ⟨by omega, by first | omega | (subst_vars; rfl), rfl⟩) | (exact Or.inr (Or.inl ⟨by omega, by omega, by first | omega | (subst_vars; rfl), rfl⟩)) | (exact Or.inr (Or.inr (Or.inl ⟨by omega, by omega, by omega, by first | omega | (subst_vars; rfl), rfl⟩))) | (exact Or.inr (Or.inr (Or.inr (Or.inl ⟨by omega, by omega, by omega, by omega, by first | omega | (subst_vars; rfl), rfl⟩)))) | (exact Or.inr (Or.inr (Or.inr (Or.inr (Or.inl ⟨by omega, by omega, by omega, by omega, by first | omega | (subst_vars; rfl), by subst_vars; rfl⟩))))) | (exact Or.inr (Or.inr (Or.inr (Or.inr (Or.inr (Or.inl ⟨by omega, by omega, by omega, by omega, by omega, by first | omega | (subst_vars; rfl), rfl⟩)))))) | (exact Or.inr (Or.inr (Or.inr (Or.inr (Or.inr (Or.inr (⟨by omega, by omega, by omega, by omega, by first | omega | (subst_vars; rfl), by subst_vars; rfl⟩))))))))⟩
set_option maxRecDepth 100000 in
set_option maxHeartbeats 4000000 in
theorem c_X8_pour {d : Nat} {t : TS} {k : Int}  (ok : OK t) (q0 : -2147483648 ≤ k) (q1 : k ≤ 2147483647) : CI (EX FU (d + 3)) 107 [.ref 0, .int (jI k)] (mk t) (fun z t' => OK t' ∧ Fr [(8, 100)] t t' ∧ (((¬ (0 ≤ k ∧ k ≤ 3)) ∧ z = (-1000000001) ∧ t' = t) ∨ ((0 ≤ k ∧ k ≤ 3) ∧ (tI t (45 + 2 * k.toNat) 1 = -1) ∧ z = (-1000000011) ∧ t' = t) ∨ ((0 ≤ k ∧ k ≤ 3) ∧ (¬ tI t (45 + 2 * k.toNat) 1 = -1) ∧ z = prC (tI t (45 + 2 * k.toNat) 2) (tA t ((45 + 2 * k.toNat) + 1)) (tA t 8) 24 ∧ (∀ m : Nat, m < 24 → tA t' 8 m = prF (tI t (45 + 2 * k.toNat) 2) (tA t ((45 + 2 * k.toNat) + 1)) (tA t 8) m)))) := by
  refine CI_ent (d := d + 2) (Bk := bX8_pour) (nL := 6) rfl rfl rfl (Nat.le_of_ble_eq_true rfl) ?_
  show Rn _ 1000000 0 [some (.ref 0), some (.int (jI k)), none, none, none, none] [] _ _
  have fr : Fr [(8, 100)] t t := Fr.rf _ _
  have hn0 := (ok.f fe_1_10).1
  have hn1 := (ok.f fe_1_10).2
  refine w_step rfl ?_
  refine w_iload rfl ?_
  refine w_callS1I rfl (c_X8_isSheet ok (by omega) (by omega)) ?_
  rintro z1 t1 ⟨rfl, hp1_0⟩
  rcases hp1_0 with ⟨rfl, hp1_0⟩ | ⟨rfl, hp1_0⟩
  · skip
    refine w_ine (by omega) (fun h => absurd h (by omega)) (fun _ => ?_)
    refine w_push kc_m1000000001 ?_
    refine w_retI rfl ?_
    exact ⟨ok, fr, (by first | (exact Or.inl ⟨by omega, by first | omega | (subst_vars; rfl), rfl⟩) | (exact Or.inr (Or.inl ⟨by omega, by omega, by first | omega | (subst_vars; rfl), rfl⟩)) | (exact Or.inr (Or.inr (⟨by omega, by omega, by rw [i3_4, show c.toNat = 24 by omega], by intro m hm; rw [i3_5 m, if_pos (by omega)]⟩))))⟩
  refine w_ine (by omega) (fun _ => ?_) (fun h => absurd (by omega) h)
  refine w_step rfl ?_
  refine w_aload rfl ?_
  refine w_getR (g_0_5 _) ?_
  refine w_iload rfl ?_
  refine w_sheets (i := (k).toNat) (by omega) (by omega) ?_
  refine w_astore (lv' := [some (.ref 0), some (.int (jI k)), some (.ref (45 + 2 * (k).toNat)), none, none, none]) rfl ?_
  refine w_aload rfl ?_
  refine w_callV0I (ojH (isH_s (i := (k).toNat) (by omega)) _).choose_spec rfl (c_X2_isMissing (isH_s (i := (k).toNat) (by omega)) ok) ?_
  rintro z2 t2 ⟨rfl, hp2_0⟩
  rcases hp2_0 with ⟨rfl, hp2_0⟩ | ⟨rfl, hp2_0⟩
  · skip
    refine w_ieq (by omega) (fun _ => ?_) (fun h => absurd (by omega) h)
    refine w_step rfl ?_
    refine w_push kc_0 ?_
    refine w_istore (lv' := [some (.ref 0), some (.int (jI k)), some (.ref (45 + 2 * (k).toNat)), some (.int (jI 0)), none, none]) rfl ?_
    refine w_push kc_0 ?_
    refine w_istore (lv' := [some (.ref 0), some (.int (jI k)), some (.ref (45 + 2 * (k).toNat)), some (.int (jI 0)), some (.int (jI 0)), none]) rfl ?_
    refine w_goto ?_
    have key3 : ∀ (n3 M3 : Nat) (acc : Int) (c : Int) (o5 : Option Int) (t3 : TS), OK t3 → Fr [(8, 100)] t t3 → (0 ≤ c) → (c ≤ 24) → (0 ≤ acc) → (acc ≤ c) → (acc = prC (tI t (45 + 2 * k.toNat) 2) (tA t ((45 + 2 * k.toNat) + 1)) (tA t 8) c.toNat) → (∀ m : Nat, tA t3 8 m = if (m : Int) < c then prF (tI t (45 + 2 * k.toNat) 2) (tA t ((45 + 2 * k.toNat) + 1)) (tA t 8) m else tA t 8 m) → 24 - c < (n3 : Int) → 60 * n3 + (1000) ≤ M3 → Rn (bX8_pour (EX FU (d + 2))) M3 3 [some (.ref 0), some (.int (jI k)), some (.ref (45 + 2 * (k).toNat)), some (.int (jI acc)), some (.int (jI c)), dv o5] [] (mk t3) (PI (fun z t' => OK t' ∧ Fr [(8, 100)] t t' ∧ (((¬ (0 ≤ k ∧ k ≤ 3)) ∧ z = (-1000000001) ∧ t' = t) ∨ ((0 ≤ k ∧ k ≤ 3) ∧ (tI t (45 + 2 * k.toNat) 1 = -1) ∧ z = (-1000000011) ∧ t' = t) ∨ ((0 ≤ k ∧ k ≤ 3) ∧ (¬ tI t (45 + 2 * k.toNat) 1 = -1) ∧ z = prC (tI t (45 + 2 * k.toNat) 2) (tA t ((45 + 2 * k.toNat) + 1)) (tA t 8) 24 ∧ (∀ m : Nat, m < 24 → tA t' 8 m = prF (tI t (45 + 2 * k.toNat) 2) (tA t ((45 + 2 * k.toNat) + 1)) (tA t 8) m))))) := by
      intro n3
      induction n3 with
      | zero => intro M3 acc c o5 t3 ok3 fr3 i3_0 i3_1 i3_2 i3_3 i3_4 i3_5 v3 f3; exfalso; omega
      | succ n3 ih3 =>
        intro M3 acc c o5 t3 ok3 fr3 i3_0 i3_1 i3_2 i3_3 i3_4 i3_5 v3 f3
        obtain ⟨M3, rfl⟩ : ∃ m, M3 = m + 60 := ⟨M3 - 60, by omega⟩
        have hS : ∀ m, tA t3 ((45 + 2 * k.toNat) + 1) m = tA t ((45 + 2 * k.toNat) + 1) m := fun m => fr3.2.1 _ (by simp; omega) m
        have hZ : tI t3 (45 + 2 * k.toNat) 2 = tI t (45 + 2 * k.toNat) 2 := fr3.1 _ _ (by simp)
        have hw0 : tA t3 8 c.toNat = tA t 8 c.toNat := by rw [i3_5 c.toNat, if_neg (by omega)]
        refine w_step rfl ?_
        refine w_iload rfl ?_
        refine w_push kc_24 ?_
        refine w_cge (by omega) (fun h4 => ?_) (fun h4 => ?_)
        · skip
          refine w_step rfl ?_
          refine w_iload rfl ?_
          refine w_retI rfl ?_
          exact ⟨ok3, fr3, (by first | (exact Or.inl ⟨by omega, by first | omega | (subst_vars; rfl), rfl⟩) | (exact Or.inr (Or.inl ⟨by omega, by omega, by first | omega | (subst_vars; rfl), rfl⟩)) | (exact Or.inr (Or.inr (⟨by omega, by omega, by rw [i3_4, show c.toNat = 24 by omega], by intro m hm; rw [i3_5 m, if_pos (by omega)]⟩))))⟩
        refine w_aload rfl ?_
        refine w_iload rfl ?_
        refine w_callV1I (ojH (isH_s (i := (k).toNat) (by omega)) _).choose_spec rfl (c_X2_isNumber (isH_s (i := (k).toNat) (by omega)) ok3 (by omega) (by omega)) ?_
        rintro z5 t5 ⟨rfl, hp5_0⟩
        rcases hp5_0 with ⟨rfl, hp5_0⟩ | ⟨rfl, hp5_0⟩
        · skip
          have hnum := hp5_0
          rw [hS, hZ] at hnum
          refine w_ieq (by omega) (fun _ => ?_) (fun h => absurd (by omega) h)
          refine w_step rfl ?_
          refine w_iinc (lv' := [some (.ref 0), some (.int (jI k)), some (.ref (45 + 2 * (k).toNat)), some (.int (jI acc)), some (.int (jI (c + 1))), dv o5]) kc_1 rfl rfl ?_
          refine w_goto ?_
          have ea : acc = prC (tI t (45 + 2 * k.toNat) 2) (tA t ((45 + 2 * k.toNat) + 1)) (tA t 8) (c + 1).toNat := by first | exact pour_n i3_0 (by omega) i3_4 | exact pour_y (v := z99qq) i3_0 (by omega) (by rw [← hS]; omega) i3_4 (by omega)
          have ew : ∀ m : Nat, tA t3 8 m = if (m : Int) < c + 1 then prF (tI t (45 + 2 * k.toNat) 2) (tA t ((45 + 2 * k.toNat) + 1)) (tA t 8) m else tA t 8 m := by first | exact pour_wn i3_0 (by omega) i3_5 | exact pour_wy (v := z99qq) i3_0 (by omega) (by rw [← hS]; omega) i3_5 (by intro m; rw [ht99qq, tA_uA]; simp)
          exact ih3 _ acc (c + 1) o5 t3 ok3 fr3 (by omega) (by omega) (by omega) (by omega) ea ew (by omega) (by omega)
        have hnum := hp5_0
        rw [hS, hZ] at hnum
        refine w_ieq (by omega) (fun h => absurd h (by omega)) (fun _ => ?_)
        refine w_aload rfl ?_
        refine w_getR (gH_0 (isH_s (i := (k).toNat) (by omega)) _) ?_
        refine w_iload rfl ?_
        refine w_iald (i := (c).toNat) (aiH_1 (isH_s (i := (k).toNat) (by omega)) _) (by omega) (by omega) (aeH_1 (isH_s (i := (k).toNat) (by omega)) _) ok3 (fun z6 hz6 hl6 hh6 => ?_)
        refine w_push kc_0 ?_
        refine w_push kc_99 ?_
        refine w_callS3I rfl (c_X8_clamp ok3 (by omega) (by omega) (by omega) (by omega) (by omega) (by omega)) ?_
        rintro z7 t7 ⟨rfl, hp7_0, hp7_1, hp7_2⟩
        refine w_istore (lv' := [some (.ref 0), some (.int (jI k)), some (.ref (45 + 2 * (k).toNat)), some (.int (jI acc)), some (.int (jI c)), some (.int (jI z7))]) rfl ?_
        refine w_iload rfl ?_
        refine w_iload rfl ?_
        refine w_aload rfl ?_
        refine w_getR (g_0_0 _) ?_
        refine w_getR (g_1_6 _) ?_
        refine w_iload rfl ?_
        refine w_iald (i := (c).toNat) (ai_8 _) (by omega) (by omega) (ae_8 _) ok3 (fun z8 hz8 hl8 hh8 => ?_)
        refine w_cne (by omega) (fun h9 => ?_) (fun h9 => ?_)
        · skip
          refine w_step rfl ?_
          refine w_push kc_1 ?_
          refine w_goto ?_
          refine w_step rfl ?_
          refine w_add ?_
          refine w_istore (lv' := [some (.ref 0), some (.int (jI k)), some (.ref (45 + 2 * (k).toNat)), some (.int (jI (acc + 1))), some (.int (jI c)), some (.int (jI z7))]) rfl ?_
          refine w_aload rfl ?_
          refine w_getR (g_0_0 _) ?_
          refine w_getR (g_1_6 _) ?_
          refine w_iload rfl ?_
          refine w_iload rfl ?_
          refine w_iast (i := (c).toNat) (ai_8 _) rfl (by omega) (by omega) (ae_8 _) ok3 (by omega) (fun t10 ht10 ok10 => ?_)
          have fr10 := fr3.uA ht10 (by simp)
          refine w_goto ?_
          refine w_step rfl ?_
          refine w_iinc (lv' := [some (.ref 0), some (.int (jI k)), some (.ref (45 + 2 * (k).toNat)), some (.int (jI (acc + 1))), some (.int (jI (c + 1))), some (.int (jI z7))]) kc_1 rfl rfl ?_
          refine w_goto ?_
          have ea : (acc + 1) = prC (tI t (45 + 2 * k.toNat) 2) (tA t ((45 + 2 * k.toNat) + 1)) (tA t 8) (c + 1).toNat := by first | exact pour_n i3_0 (by omega) i3_4 | exact pour_y (v := z7) i3_0 (by omega) (by rw [← hS]; omega) i3_4 (by omega)
          have ew : ∀ m : Nat, tA t10 8 m = if (m : Int) < c + 1 then prF (tI t (45 + 2 * k.toNat) 2) (tA t ((45 + 2 * k.toNat) + 1)) (tA t 8) m else tA t 8 m := by first | exact pour_wn i3_0 (by omega) i3_5 | exact pour_wy (v := z7) i3_0 (by omega) (by rw [← hS]; omega) i3_5 (by intro m; rw [ht10, tA_uA]; simp)
          exact ih3 _ (acc + 1) (c + 1) (some z7) t10 ok10 fr10 (by omega) (by omega) (by omega) (by omega) ea ew (by omega) (by omega)
        refine w_push kc_0 ?_
        refine w_goto ?_
        refine w_step rfl ?_
        refine w_add ?_
        refine w_istore (lv' := [some (.ref 0), some (.int (jI k)), some (.ref (45 + 2 * (k).toNat)), some (.int (jI (acc + 0))), some (.int (jI c)), some (.int (jI z7))]) rfl ?_
        refine w_aload rfl ?_
        refine w_getR (g_0_0 _) ?_
        refine w_getR (g_1_6 _) ?_
        refine w_iload rfl ?_
        refine w_iload rfl ?_
        refine w_iast (i := (c).toNat) (ai_8 _) rfl (by omega) (by omega) (ae_8 _) ok3 (by omega) (fun t11 ht11 ok11 => ?_)
        have fr11 := fr3.uA ht11 (by simp)
        refine w_goto ?_
        refine w_step rfl ?_
        refine w_iinc (lv' := [some (.ref 0), some (.int (jI k)), some (.ref (45 + 2 * (k).toNat)), some (.int (jI (acc + 0))), some (.int (jI (c + 1))), some (.int (jI z7))]) kc_1 rfl rfl ?_
        refine w_goto ?_
        have ea : (acc + 0) = prC (tI t (45 + 2 * k.toNat) 2) (tA t ((45 + 2 * k.toNat) + 1)) (tA t 8) (c + 1).toNat := by first | exact pour_n i3_0 (by omega) i3_4 | exact pour_y (v := z7) i3_0 (by omega) (by rw [← hS]; omega) i3_4 (by omega)
        have ew : ∀ m : Nat, tA t11 8 m = if (m : Int) < c + 1 then prF (tI t (45 + 2 * k.toNat) 2) (tA t ((45 + 2 * k.toNat) + 1)) (tA t 8) m else tA t 8 m := by first | exact pour_wn i3_0 (by omega) i3_5 | exact pour_wy (v := z7) i3_0 (by omega) (by rw [← hS]; omega) i3_5 (by intro m; rw [ht11, tA_uA]; simp)
        exact ih3 _ (acc + 0) (c + 1) (some z7) t11 ok11 fr11 (by omega) (by omega) (by omega) (by omega) ea ew (by omega) (by omega)
    exact key3 25 _ 0 0 none t ok fr (by omega) (by omega) (by omega) (by omega) rfl (by intro m; rw [if_neg (by omega)]) (by omega) (by omega)
  refine w_ieq (by omega) (fun h => absurd h (by omega)) (fun _ => ?_)
  refine w_push kc_m1000000011 ?_
  refine w_retI rfl ?_
  exact ⟨ok, fr, (by first | (exact Or.inl ⟨by omega, by first | omega | (subst_vars; rfl), rfl⟩) | (exact Or.inr (Or.inl ⟨by omega, by omega, by first | omega | (subst_vars; rfl), rfl⟩)) | (exact Or.inr (Or.inr (⟨by omega, by omega, by rw [i3_4, show c.toNat = 24 by omega], by intro m hm; rw [i3_5 m, if_pos (by omega)]⟩))))⟩
set_option maxRecDepth 100000 in
set_option maxHeartbeats 4000000 in
theorem c_X8_reads {d : Nat} {t : TS} {k : Int}  (ok : OK t) (q0 : -2147483648 ≤ k) (q1 : k ≤ 2147483647) : CI (EX FU (d + 3)) 108 [.ref 0, .int (jI k)] (mk t) (fun z t' => t = t' ∧ (-2147483648 ≤ z) ∧ (z ≤ 2147483647)) := by
  refine CI_ent (d := d + 2) (Bk := bX8_reads) (nL := 4) rfl rfl rfl (Nat.le_of_ble_eq_true rfl) ?_
  show Rn _ 1000000 0 [some (.ref 0), some (.int (jI k)), none, none] [] _ _
  have hn0 := (ok.f fe_1_10).1
  have hn1 := (ok.f fe_1_10).2
  refine w_step rfl ?_
  refine w_iload rfl ?_
  refine w_callS1I rfl (c_X8_isSheet ok (by omega) (by omega)) ?_
  rintro z1 t1 ⟨rfl, hp1_0⟩
  rcases hp1_0 with ⟨rfl, hp1_0⟩ | ⟨rfl, hp1_0⟩
  · skip
    refine w_ine (by omega) (fun h => absurd h (by omega)) (fun _ => ?_)
    refine w_push kc_m1000000001 ?_
    refine w_retI rfl ?_
    exact ⟨rfl, (by omega), (by omega)⟩
  refine w_ine (by omega) (fun _ => ?_) (fun h => absurd (by omega) h)
  refine w_step rfl ?_
  refine w_aload rfl ?_
  refine w_getR (g_0_5 _) ?_
  refine w_iload rfl ?_
  refine w_sheets (i := (k).toNat) (by omega) (by omega) ?_
  refine w_astore (lv' := [some (.ref 0), some (.int (jI k)), some (.ref (45 + 2 * (k).toNat)), none]) rfl ?_
  refine w_aload rfl ?_
  refine w_callV0I (ojH (isH_s (i := (k).toNat) (by omega)) _).choose_spec rfl (c_X2_isMissing (isH_s (i := (k).toNat) (by omega)) ok) ?_
  rintro z2 t2 ⟨rfl, hp2_0⟩
  rcases hp2_0 with ⟨rfl, hp2_0⟩ | ⟨rfl, hp2_0⟩
  · skip
    refine w_ieq (by omega) (fun _ => ?_) (fun h => absurd (by omega) h)
    refine w_step rfl ?_
    refine w_push kc_0 ?_
    refine w_istore (lv' := [some (.ref 0), some (.int (jI k)), some (.ref (45 + 2 * (k).toNat)), some (.int (jI 0))]) rfl ?_
    refine w_goto ?_
    have key3 : ∀ (n3 M3 : Nat) (p : Int), (0 ≤ p) → (p ≤ 24) → 24 - p < (n3 : Int) → 60 * n3 + (1000) ≤ M3 → Rn (bX8_reads (EX FU (d + 2))) M3 3 [some (.ref 0), some (.int (jI k)), some (.ref (45 + 2 * (k).toNat)), some (.int (jI p))] [] (mk t) (PI (fun z t' => t = t' ∧ (-2147483648 ≤ z) ∧ (z ≤ 2147483647))) := by
      intro n3
      induction n3 with
      | zero => intro M3 p i3_0 i3_1 v3 f3; exfalso; omega
      | succ n3 ih3 =>
        intro M3 p i3_0 i3_1 v3 f3
        obtain ⟨M3, rfl⟩ : ∃ m, M3 = m + 60 := ⟨M3 - 60, by omega⟩
        refine w_step rfl ?_
        refine w_iload rfl ?_
        refine w_aload rfl ?_
        refine w_getI (gH_2 (isH_s (i := (k).toNat) (by omega)) _) (feH_2 (isH_s (i := (k).toNat) (by omega))) ok (fun z3 hz3 hl3 hh3 => ?_)
        refine w_cge (by omega) (fun h4 => ?_) (fun h4 => ?_)
        · skip
          refine w_step rfl ?_
          refine w_push kc_m1000000005 ?_
          refine w_retI rfl ?_
          exact ⟨rfl, (by omega), (by omega)⟩
        refine w_aload rfl ?_
        refine w_iload rfl ?_
        refine w_callV1I (ojH (isH_s (i := (k).toNat) (by omega)) _).choose_spec rfl (c_X2_isNumber (isH_s (i := (k).toNat) (by omega)) ok (by omega) (by omega)) ?_
        rintro z5 t5 ⟨rfl, hp5_0⟩
        rcases hp5_0 with ⟨rfl, hp5_0⟩ | ⟨rfl, hp5_0⟩
        · skip
          refine w_ieq (by omega) (fun _ => ?_) (fun h => absurd (by omega) h)
          refine w_step rfl ?_
          refine w_iinc (lv' := [some (.ref 0), some (.int (jI k)), some (.ref (45 + 2 * (k).toNat)), some (.int (jI (p + 1)))]) kc_1 rfl rfl ?_
          refine w_goto ?_
          exact ih3 _ (p + 1)  (by omega) (by omega) (by omega) (by omega)
        refine w_ieq (by omega) (fun h => absurd h (by omega)) (fun _ => ?_)
        refine w_iload rfl ?_
        refine w_push kc_12 ?_
        refine w_cge (by omega) (fun h6 => ?_) (fun h6 => ?_)
        · skip
          refine w_step rfl ?_
          refine w_iload rfl ?_
          refine w_retI rfl ?_
          exact ⟨rfl, (by omega), (by omega)⟩
        refine w_aload rfl ?_
        refine w_getR (gH_0 (isH_s (i := (k).toNat) (by omega)) _) ?_
        refine w_iload rfl ?_
        refine w_iald (i := (p).toNat) (aiH_1 (isH_s (i := (k).toNat) (by omega)) _) (by omega) (by omega) (aeH_1 (isH_s (i := (k).toNat) (by omega)) _) ok (fun z7 hz7 hl7 hh7 => ?_)
        refine w_aload rfl ?_
        refine w_getR (g_0_0 _) ?_
        refine w_getR (g_1_5 _) ?_
        refine w_iload rfl ?_
        refine w_iald (i := (p).toNat) (ai_7 _) (by omega) (by omega) (ae_7 _) ok (fun z8 hz8 hl8 hh8 => ?_)
        refine w_ceq (by omega) (fun h9 => ?_) (fun h9 => ?_)
        · skip
          refine w_step rfl ?_
          refine w_iinc (lv' := [some (.ref 0), some (.int (jI k)), some (.ref (45 + 2 * (k).toNat)), some (.int (jI (p + 1)))]) kc_1 rfl rfl ?_
          refine w_goto ?_
          exact ih3 _ (p + 1)  (by omega) (by omega) (by omega) (by omega)
        refine w_goto ?_
        refine w_step rfl ?_
        refine w_iload rfl ?_
        refine w_retI rfl ?_
        exact ⟨rfl, (by omega), (by omega)⟩
    exact key3 25 _ 0  (by omega) (by omega) (by omega) (by omega)
  refine w_ieq (by omega) (fun h => absurd h (by omega)) (fun _ => ?_)
  refine w_push kc_m1000000011 ?_
  refine w_retI rfl ?_
  exact ⟨rfl, (by omega), (by omega)⟩
set_option maxRecDepth 100000 in
set_option maxHeartbeats 4000000 in
theorem c_X8_copy {d : Nat} {t : TS} {k p h a m : Int}  (ok : OK t) (q0 : -2147483648 ≤ k) (q1 : k ≤ 2147483647) (q2 : -2147483648 ≤ p) (q3 : p ≤ 2147483647) (q4 : -2147483648 ≤ h) (q5 : h ≤ 2147483647) (q6 : -2147483648 ≤ a) (q7 : a ≤ 2147483647) (q8 : -2147483648 ≤ m) (q9 : m ≤ 2147483647) : CI (EX FU (d + 3)) 109 [.ref 0, .int (jI k), .int (jI p), .int (jI h), .int (jI a), .int (jI m)] (mk t) (fun z t' => OK t' ∧ Fr [((45 + 2 * h.toNat) + 1, 100)] t t' ∧ (((¬ (0 ≤ k ∧ k ≤ 3 ∧ 0 ≤ h ∧ h ≤ 3)) ∧ z = (-1000000001) ∧ t' = t) ∨ ((0 ≤ k ∧ k ≤ 3 ∧ 0 ≤ h ∧ h ≤ 3) ∧ (tI t (45 + 2 * k.toNat) 1 = -1 ∨ tI t (45 + 2 * h.toNat) 1 = -1) ∧ z = (-1000000011) ∧ t' = t) ∨ ((0 ≤ k ∧ k ≤ 3 ∧ 0 ≤ h ∧ h ≤ 3) ∧ (¬ tI t (45 + 2 * k.toNat) 1 = -1 ∧ ¬ tI t (45 + 2 * h.toNat) 1 = -1) ∧ (¬ tI t (45 + 2 * k.toNat) 1 = tI t (45 + 2 * h.toNat) 1) ∧ z = (-1000000012) ∧ t' = t) ∨ ((0 ≤ k ∧ k ≤ 3 ∧ 0 ≤ h ∧ h ≤ 3) ∧ (¬ tI t (45 + 2 * k.toNat) 1 = -1 ∧ ¬ tI t (45 + 2 * h.toNat) 1 = -1) ∧ (tI t (45 + 2 * k.toNat) 1 = tI t (45 + 2 * h.toNat) 1) ∧ (¬ (0 ≤ p ∧ p ≤ tI t (45 + 2 * k.toNat) 2 ∧ 0 ≤ m ∧ m ≤ tI t (45 + 2 * k.toNat) 2 - p ∧ 0 ≤ a ∧ a ≤ tI t (45 + 2 * h.toNat) 2 ∧ m ≤ tI t (45 + 2 * h.toNat) 2 - a)) ∧ z = (-1000000013) ∧ t' = t) ∨ ((0 ≤ k ∧ k ≤ 3 ∧ 0 ≤ h ∧ h ≤ 3) ∧ (¬ tI t (45 + 2 * k.toNat) 1 = -1 ∧ ¬ tI t (45 + 2 * h.toNat) 1 = -1) ∧ (tI t (45 + 2 * k.toNat) 1 = tI t (45 + 2 * h.toNat) 1) ∧ (0 ≤ p ∧ p ≤ tI t (45 + 2 * k.toNat) 2 ∧ 0 ≤ m ∧ m ≤ tI t (45 + 2 * k.toNat) 2 - p ∧ 0 ≤ a ∧ a ≤ tI t (45 + 2 * h.toNat) 2 ∧ m ≤ tI t (45 + 2 * h.toNat) 2 - a) ∧ z = m ∧ (t' = uR t ((45 + 2 * h.toNat) + 1) (fun i => if a.toNat ≤ i ∧ i < a.toNat + m.toNat then tA t ((45 + 2 * k.toNat) + 1) (p.toNat + (i - a.toNat)) else tA t ((45 + 2 * h.toNat) + 1) i))))) := by
  refine CI_ent (d := d + 2) (Bk := bX8_copy) (nL := 8) rfl rfl rfl (Nat.le_of_ble_eq_true rfl) ?_
  show Rn _ 1000000 0 [some (.ref 0), some (.int (jI k)), some (.int (jI p)), some (.int (jI h)), some (.int (jI a)), some (.int (jI m)), none, none] [] _ _
  have fr : Fr [((45 + 2 * h.toNat) + 1, 100)] t t := Fr.rf _ _
  have hn0 := (ok.f fe_1_10).1
  have hn1 := (ok.f fe_1_10).2
  refine w_step rfl ?_
  refine w_iload rfl ?_
  refine w_callS1I rfl (c_X8_isSheet ok (by omega) (by omega)) ?_
  rintro z1 t1 ⟨rfl, hp1_0⟩
  rcases hp1_0 with ⟨rfl, hp1_0⟩ | ⟨rfl, hp1_0⟩
  · skip
    refine w_ieq (by omega) (fun _ => ?_) (fun h => absurd (by omega) h)
    refine w_step rfl ?_
    refine w_push kc_m1000000001 ?_
    refine w_retI rfl ?_
    exact ⟨ok, fr, (by first | (exact Or.inl ⟨by omega, by first | omega | (subst_vars; rfl), rfl⟩) | (exact Or.inr (Or.inl ⟨by omega, by omega, by first | omega | (subst_vars; rfl), rfl⟩)) | (exact Or.inr (Or.inr (Or.inl ⟨by omega, by omega, by omega, by first | omega | (subst_vars; rfl), rfl⟩))) | (exact Or.inr (Or.inr (Or.inr (Or.inl ⟨by omega, by omega, by omega, by omega, by first | omega | (subst_vars; rfl), rfl⟩)))) | (exact Or.inr (Or.inr (Or.inr (Or.inr (⟨by omega, by omega, by omega, by omega, by first | omega | (subst_vars; rfl), by assumption⟩))))))⟩
  refine w_ieq (by omega) (fun h => absurd h (by omega)) (fun _ => ?_)
  refine w_iload rfl ?_
  refine w_callS1I rfl (c_X8_isSheet ok (by omega) (by omega)) ?_
  rintro z2 t2 ⟨rfl, hp2_0⟩
  rcases hp2_0 with ⟨rfl, hp2_0⟩ | ⟨rfl, hp2_0⟩
  · skip
    refine w_ine (by omega) (fun h => absurd h (by omega)) (fun _ => ?_)
    refine w_goto ?_
    refine w_step rfl ?_
    refine w_push kc_m1000000001 ?_
    refine w_retI rfl ?_
    exact ⟨ok, fr, (by first | (exact Or.inl ⟨by omega, by first | omega | (subst_vars; rfl), rfl⟩) | (exact Or.inr (Or.inl ⟨by omega, by omega, by first | omega | (subst_vars; rfl), rfl⟩)) | (exact Or.inr (Or.inr (Or.inl ⟨by omega, by omega, by omega, by first | omega | (subst_vars; rfl), rfl⟩))) | (exact Or.inr (Or.inr (Or.inr (Or.inl ⟨by omega, by omega, by omega, by omega, by first | omega | (subst_vars; rfl), rfl⟩)))) | (exact Or.inr (Or.inr (Or.inr (Or.inr (⟨by omega, by omega, by omega, by omega, by first | omega | (subst_vars; rfl), by assumption⟩))))))⟩
  refine w_ine (by omega) (fun _ => ?_) (fun h => absurd (by omega) h)
  refine w_step rfl ?_
  refine w_aload rfl ?_
  refine w_getR (g_0_5 _) ?_
  refine w_iload rfl ?_
  refine w_sheets (i := (k).toNat) (by omega) (by omega) ?_
  refine w_astore (lv' := [some (.ref 0), some (.int (jI k)), some (.int (jI p)), some (.int (jI h)), some (.int (jI a)), some (.int (jI m)), some (.ref (45 + 2 * (k).toNat)), none]) rfl ?_
  refine w_aload rfl ?_
  refine w_getR (g_0_5 _) ?_
  refine w_iload rfl ?_
  refine w_sheets (i := (h).toNat) (by omega) (by omega) ?_
  refine w_astore (lv' := [some (.ref 0), some (.int (jI k)), some (.int (jI p)), some (.int (jI h)), some (.int (jI a)), some (.int (jI m)), some (.ref (45 + 2 * (k).toNat)), some (.ref (45 + 2 * (h).toNat))]) rfl ?_
  refine w_aload rfl ?_
  refine w_callV0I (ojH (isH_s (i := (k).toNat) (by omega)) _).choose_spec rfl (c_X2_isMissing (isH_s (i := (k).toNat) (by omega)) ok) ?_
  rintro z3 t3 ⟨rfl, hp3_0⟩
  rcases hp3_0 with ⟨rfl, hp3_0⟩ | ⟨rfl, hp3_0⟩
  · skip
    refine w_ine (by omega) (fun h => absurd h (by omega)) (fun _ => ?_)
    refine w_aload rfl ?_
    refine w_callV0I (ojH (isH_s (i := (h).toNat) (by omega)) _).choose_spec rfl (c_X2_isMissing (isH_s (i := (h).toNat) (by omega)) ok) ?_
    rintro z4 t4 ⟨rfl, hp4_0⟩
    rcases hp4_0 with ⟨rfl, hp4_0⟩ | ⟨rfl, hp4_0⟩
    · skip
      refine w_ieq (by omega) (fun _ => ?_) (fun h => absurd (by omega) h)
      refine w_step rfl ?_
      refine w_aload rfl ?_
      refine w_getI (gH_1 (isH_s (i := (k).toNat) (by omega)) _) (feH_1 (isH_s (i := (k).toNat) (by omega))) ok (fun z5 hz5 hl5 hh5 => ?_)
      refine w_aload rfl ?_
      refine w_getI (gH_1 (isH_s (i := (h).toNat) (by omega)) _) (feH_1 (isH_s (i := (h).toNat) (by omega))) ok (fun z6 hz6 hl6 hh6 => ?_)
      refine w_ceq (by omega) (fun h7 => ?_) (fun h7 => ?_)
      · skip
        refine w_step rfl ?_
        refine w_aload rfl ?_
        refine w_iload rfl ?_
        refine w_iload rfl ?_
        refine w_callV2I (ojH (isH_s (i := (k).toNat) (by omega)) _).choose_spec rfl (c_X2_hasPlaces (isH_s (i := (k).toNat) (by omega)) ok (by omega) (by omega) (by omega) (by omega)) ?_
        rintro z8 t8 ⟨rfl, hp8_0⟩
        rcases hp8_0 with ⟨rfl, hp8_0⟩ | ⟨rfl, hp8_0⟩
        · skip
          refine w_ieq (by omega) (fun _ => ?_) (fun h => absurd (by omega) h)
          refine w_step rfl ?_
          refine w_push kc_m1000000013 ?_
          refine w_retI rfl ?_
          exact ⟨ok, fr, (by first | (exact Or.inl ⟨by omega, by first | omega | (subst_vars; rfl), rfl⟩) | (exact Or.inr (Or.inl ⟨by omega, by omega, by first | omega | (subst_vars; rfl), rfl⟩)) | (exact Or.inr (Or.inr (Or.inl ⟨by omega, by omega, by omega, by first | omega | (subst_vars; rfl), rfl⟩))) | (exact Or.inr (Or.inr (Or.inr (Or.inl ⟨by omega, by omega, by omega, by omega, by first | omega | (subst_vars; rfl), rfl⟩)))) | (exact Or.inr (Or.inr (Or.inr (Or.inr (⟨by omega, by omega, by omega, by omega, by first | omega | (subst_vars; rfl), by assumption⟩))))))⟩
        refine w_ieq (by omega) (fun h => absurd h (by omega)) (fun _ => ?_)
        refine w_aload rfl ?_
        refine w_iload rfl ?_
        refine w_iload rfl ?_
        refine w_callV2I (ojH (isH_s (i := (h).toNat) (by omega)) _).choose_spec rfl (c_X2_hasPlaces (isH_s (i := (h).toNat) (by omega)) ok (by omega) (by omega) (by omega) (by omega)) ?_
        rintro z9 t9 ⟨rfl, hp9_0⟩
        rcases hp9_0 with ⟨rfl, hp9_0⟩ | ⟨rfl, hp9_0⟩
        · skip
          refine w_ine (by omega) (fun h => absurd h (by omega)) (fun _ => ?_)
          refine w_goto ?_
          refine w_step rfl ?_
          refine w_push kc_m1000000013 ?_
          refine w_retI rfl ?_
          exact ⟨ok, fr, (by first | (exact Or.inl ⟨by omega, by first | omega | (subst_vars; rfl), rfl⟩) | (exact Or.inr (Or.inl ⟨by omega, by omega, by first | omega | (subst_vars; rfl), rfl⟩)) | (exact Or.inr (Or.inr (Or.inl ⟨by omega, by omega, by omega, by first | omega | (subst_vars; rfl), rfl⟩))) | (exact Or.inr (Or.inr (Or.inr (Or.inl ⟨by omega, by omega, by omega, by omega, by first | omega | (subst_vars; rfl), rfl⟩)))) | (exact Or.inr (Or.inr (Or.inr (Or.inr (⟨by omega, by omega, by omega, by omega, by first | omega | (subst_vars; rfl), by assumption⟩))))))⟩
        refine w_ine (by omega) (fun _ => ?_) (fun h => absurd (by omega) h)
        refine w_step rfl ?_
        refine w_aload rfl ?_
        refine w_getR (gH_0 (isH_s (i := (k).toNat) (by omega)) _) ?_
        refine w_iload rfl ?_
        refine w_aload rfl ?_
        refine w_getR (gH_0 (isH_s (i := (h).toNat) (by omega)) _) ?_
        refine w_iload rfl ?_
        refine w_iload rfl ?_
        have hs1 := ok.f (feH_2 (isH_s (i := k.toNat) (by omega)))
        have hs2 := ok.f (feH_2 (isH_s (i := h.toNat) (by omega)))
        refine w_acopy (s := (p).toNat) (d := (a).toNat) (m := (m).toNat) (aiH_1 (isH_s (i := (k).toNat) (by omega)) _) (aiH_1 (isH_s (i := (h).toNat) (by omega)) _) (by omega) (by omega) (by omega) (by omega) (by omega) rfl ok (fun i _ _ => by have hXq := ok.a (c := ((45 + 2 * (k).toNat) + 1)) (i := (p).toNat + (i - (a).toNat)) (aeH_1 (isH_s (i := (k).toNat) (by omega)) _); rw [(aeH_1 (isH_s (i := (h).toNat) (by omega)) _)]; exact hXq) (fun t10 ht10 ok10 => ?_)
        have fr10 := fr.uR ht10 (by simp)
        refine w_iload rfl ?_
        refine w_retI rfl ?_
        exact ⟨ok10, fr10, (by first | (exact Or.inl ⟨by omega, by first | omega | (subst_vars; rfl), rfl⟩) | (exact Or.inr (Or.inl ⟨by omega, by omega, by first | omega | (subst_vars; rfl), rfl⟩)) | (exact Or.inr (Or.inr (Or.inl ⟨by omega, by omega, by omega, by first | omega | (subst_vars; rfl), rfl⟩))) | (exact Or.inr (Or.inr (Or.inr (Or.inl ⟨by omega, by omega, by omega, by omega, by first | omega | (subst_vars; rfl), rfl⟩)))) | (exact Or.inr (Or.inr (Or.inr (Or.inr (⟨by omega, by omega, by omega, by omega, by first | omega | (subst_vars; rfl), by assumption⟩))))))⟩
      refine w_push kc_m1000000012 ?_
      refine w_retI rfl ?_
      exact ⟨ok, fr, (by first | (exact Or.inl ⟨by omega, by first | omega | (subst_vars; rfl), rfl⟩) | (exact Or.inr (Or.inl ⟨by omega, by omega, by first | omega | (subst_vars; rfl), rfl⟩)) | (exact Or.inr (Or.inr (Or.inl ⟨by omega, by omega, by omega, by first | omega | (subst_vars; rfl), rfl⟩))) | (exact Or.inr (Or.inr (Or.inr (Or.inl ⟨by omega, by omega, by omega, by omega, by first | omega | (subst_vars; rfl), rfl⟩)))) | (exact Or.inr (Or.inr (Or.inr (Or.inr (⟨by omega, by omega, by omega, by omega, by first | omega | (subst_vars; rfl), by assumption⟩))))))⟩
    refine w_ieq (by omega) (fun h => absurd h (by omega)) (fun _ => ?_)
    refine w_goto ?_
    refine w_step rfl ?_
    refine w_push kc_m1000000011 ?_
    refine w_retI rfl ?_
    exact ⟨ok, fr, (by first | (exact Or.inl ⟨by omega, by first | omega | (subst_vars; rfl), rfl⟩) | (exact Or.inr (Or.inl ⟨by omega, by omega, by first | omega | (subst_vars; rfl), rfl⟩)) | (exact Or.inr (Or.inr (Or.inl ⟨by omega, by omega, by omega, by first | omega | (subst_vars; rfl), rfl⟩))) | (exact Or.inr (Or.inr (Or.inr (Or.inl ⟨by omega, by omega, by omega, by omega, by first | omega | (subst_vars; rfl), rfl⟩)))) | (exact Or.inr (Or.inr (Or.inr (Or.inr (⟨by omega, by omega, by omega, by omega, by first | omega | (subst_vars; rfl), by assumption⟩))))))⟩
  refine w_ine (by omega) (fun _ => ?_) (fun h => absurd (by omega) h)
  refine w_step rfl ?_
  refine w_push kc_m1000000011 ?_
  refine w_retI rfl ?_
  exact ⟨ok, fr, (by first | (exact Or.inl ⟨by omega, by first | omega | (subst_vars; rfl), rfl⟩) | (exact Or.inr (Or.inl ⟨by omega, by omega, by first | omega | (subst_vars; rfl), rfl⟩)) | (exact Or.inr (Or.inr (Or.inl ⟨by omega, by omega, by omega, by first | omega | (subst_vars; rfl), rfl⟩))) | (exact Or.inr (Or.inr (Or.inr (Or.inl ⟨by omega, by omega, by omega, by omega, by first | omega | (subst_vars; rfl), rfl⟩)))) | (exact Or.inr (Or.inr (Or.inr (Or.inr (⟨by omega, by omega, by omega, by omega, by first | omega | (subst_vars; rfl), by assumption⟩))))))⟩
set_option maxRecDepth 100000 in
set_option maxHeartbeats 4000000 in
theorem c_X8_lookFor {d : Nat} {t : TS} {s w : Int}  (ok : OK t) (q0 : 0 ≤ s) (q1 : s ≤ 4) (q2 : 1 ≤ w) (q3 : w ≤ 3) : CI (EX FU (d + 1)) 126 [.ref 0, .int (jI s), .int (jI w)] (mk t) (fun z t' => t = t' ∧ ((tI t (53 + 3 * s.toNat) 1 = 0 ∧ z = (-1000000011)) ∨ (¬ tI t (53 + 3 * s.toNat) 1 = 0 ∧ tI t (53 + 3 * s.toNat) 1 = w ∧ z = 0) ∨ (¬ tI t (53 + 3 * s.toNat) 1 = 0 ∧ ¬ tI t (53 + 3 * s.toNat) 1 = w ∧ z = (-1000000012)))) := by
  refine CI_ent (d := d + 0) (Bk := bX8_lookFor) (nL := 3) rfl rfl rfl (Nat.le_of_ble_eq_true rfl) ?_
  show Rn _ 1000000 0 [some (.ref 0), some (.int (jI s)), some (.int (jI w))] [] _ _
  have hn0 := (ok.f fe_1_10).1
  have hn1 := (ok.f fe_1_10).2
  refine w_step rfl ?_
  refine w_aload rfl ?_
  refine w_getR (g_0_6 _) ?_
  refine w_iload rfl ?_
  refine w_slots (i := (s).toNat) (by omega) (by omega) ?_
  refine w_getI (gL_1 (isL_s (i := (s).toNat) (by omega)) _) (feL_1 (isL_s (i := (s).toNat) (by omega))) ok (fun z1 hz1 hl1 hh1 => ?_)
  refine w_ine (by omega) (fun h2 => ?_) (fun h2 => ?_)
  · skip
    refine w_step rfl ?_
    refine w_aload rfl ?_
    refine w_getR (g_0_6 _) ?_
    refine w_iload rfl ?_
    refine w_slots (i := (s).toNat) (by omega) (by omega) ?_
    refine w_getI (gL_1 (isL_s (i := (s).toNat) (by omega)) _) (feL_1 (isL_s (i := (s).toNat) (by omega))) ok (fun z3 hz3 hl3 hh3 => ?_)
    refine w_iload rfl ?_
    refine w_cne (by omega) (fun h4 => ?_) (fun h4 => ?_)
    · skip
      refine w_step rfl ?_
      refine w_push kc_m1000000012 ?_
      refine w_goto ?_
      refine w_step rfl ?_
      refine w_retI rfl ?_
      exact ⟨rfl, (by omega)⟩
    refine w_push kc_0 ?_
    refine w_goto ?_
    refine w_step rfl ?_
    refine w_retI rfl ?_
    exact ⟨rfl, (by omega)⟩
  refine w_push kc_m1000000011 ?_
  refine w_retI rfl ?_
  exact ⟨rfl, (by omega)⟩
set_option maxRecDepth 100000 in
set_option maxHeartbeats 4000000 in
theorem c_X8_ask {d : Nat} {t : TS} {s k : Int}  (ok : OK t) (q0 : -2147483648 ≤ s) (q1 : s ≤ 2147483647) (q2 : -2147483648 ≤ k) (q3 : k ≤ 2147483647) : CI (EX FU (d + 3)) 111 [.ref 0, .int (jI s), .int (jI k)] (mk t) (fun z t' => t = t' ∧ (((¬ (0 ≤ s ∧ s ≤ 4 ∧ 0 ≤ k ∧ k ≤ 5)) ∧ z = (-1000000001)) ∨ ((0 ≤ s ∧ s ≤ 4 ∧ 0 ≤ k ∧ k ≤ 5) ∧ (tI t (53 + 3 * s.toNat) 1 = 0) ∧ z = (-1000000011)) ∨ ((0 ≤ s ∧ s ≤ 4 ∧ 0 ≤ k ∧ k ≤ 5) ∧ (¬ tI t (53 + 3 * s.toNat) 1 = 0) ∧ (¬ tI t (53 + 3 * s.toNat) 1 = 1) ∧ z = (-1000000012)) ∨ ((0 ≤ s ∧ s ≤ 4 ∧ 0 ≤ k ∧ k ≤ 5) ∧ (tI t (53 + 3 * s.toNat) 1 = 1) ∧ (tI t (53 + 3 * s.toNat) 2 = k ∨ k = 0 ∨ (k = 1 ∧ tI t (53 + 3 * s.toNat) 2 = 3) ∨ (k = 2 ∧ tI t (53 + 3 * s.toNat) 2 = 4)) ∧ z = woF (tI t (53 + 3 * s.toNat) 2) (tI t (53 + 3 * s.toNat) 3) (tI t (53 + 3 * s.toNat) 4)) ∨ ((0 ≤ s ∧ s ≤ 4 ∧ 0 ≤ k ∧ k ≤ 5) ∧ (tI t (53 + 3 * s.toNat) 1 = 1) ∧ (¬ (tI t (53 + 3 * s.toNat) 2 = k ∨ k = 0 ∨ (k = 1 ∧ tI t (53 + 3 * s.toNat) 2 = 3) ∨ (k = 2 ∧ tI t (53 + 3 * s.toNat) 2 = 4))) ∧ z = (-1000000012)))) := by
  refine CI_ent (d := d + 2) (Bk := bX8_ask) (nL := 5) rfl rfl rfl (Nat.le_of_ble_eq_true rfl) ?_
  show Rn _ 1000000 0 [some (.ref 0), some (.int (jI s)), some (.int (jI k)), none, none] [] _ _
  have hn0 := (ok.f fe_1_10).1
  have hn1 := (ok.f fe_1_10).2
  refine w_step rfl ?_
  refine w_iload rfl ?_
  refine w_callS1I rfl (c_X8_isSlot ok (by omega) (by omega)) ?_
  rintro z1 t1 ⟨rfl, hp1_0⟩
  rcases hp1_0 with ⟨rfl, hp1_0⟩ | ⟨rfl, hp1_0⟩
  · skip
    refine w_ieq (by omega) (fun _ => ?_) (fun h => absurd (by omega) h)
    refine w_step rfl ?_
    refine w_push kc_m1000000001 ?_
    refine w_retI rfl ?_
    exact ⟨rfl, (by (try rcases hL with hL | hL | hL) <;> first | (exact Or.inl ⟨by omega, by first | omega | (subst_vars; rfl)⟩) | (exact Or.inr (Or.inl ⟨by omega, by omega, by first | omega | (subst_vars; rfl)⟩)) | (exact Or.inr (Or.inr (Or.inl ⟨by omega, by omega, by omega, by first | omega | (subst_vars; rfl)⟩))) | (exact Or.inr (Or.inr (Or.inr (Or.inl ⟨by omega, by omega, by omega, by first | omega | (subst_vars; rfl)⟩)))) | (exact Or.inr (Or.inr (Or.inr (Or.inr (⟨by omega, by omega, by omega, by first | omega | (subst_vars; rfl)⟩))))))⟩
  refine w_ieq (by omega) (fun h => absurd h (by omega)) (fun _ => ?_)
  refine w_iload rfl ?_
  refine w_push kc_0 ?_
  refine w_push kc_5 ?_
  refine w_callS3I rfl (c_X8_within ok (by omega) (by omega) (by omega) (by omega) (by omega) (by omega)) ?_
  rintro z2 t2 ⟨rfl, hp2_0⟩
  rcases hp2_0 with ⟨rfl, hp2_0⟩ | ⟨rfl, hp2_0⟩
  · skip
    refine w_ine (by omega) (fun h => absurd h (by omega)) (fun _ => ?_)
    refine w_goto ?_
    refine w_step rfl ?_
    refine w_push kc_m1000000001 ?_
    refine w_retI rfl ?_
    exact ⟨rfl, (by (try rcases hL with hL | hL | hL) <;> first | (exact Or.inl ⟨by omega, by first | omega | (subst_vars; rfl)⟩) | (exact Or.inr (Or.inl ⟨by omega, by omega, by first | omega | (subst_vars; rfl)⟩)) | (exact Or.inr (Or.inr (Or.inl ⟨by omega, by omega, by omega, by first | omega | (subst_vars; rfl)⟩))) | (exact Or.inr (Or.inr (Or.inr (Or.inl ⟨by omega, by omega, by omega, by first | omega | (subst_vars; rfl)⟩)))) | (exact Or.inr (Or.inr (Or.inr (Or.inr (⟨by omega, by omega, by omega, by first | omega | (subst_vars; rfl)⟩))))))⟩
  refine w_ine (by omega) (fun _ => ?_) (fun h => absurd (by omega) h)
  refine w_step rfl ?_
  refine w_aload rfl ?_
  refine w_iload rfl ?_
  refine w_push kc_1 ?_
  refine w_callV2I (oj_0 _).choose_spec rfl (c_X8_lookFor ok (by omega) (by omega) (by omega) (by omega)) ?_
  rintro z3 t3 ⟨rfl, hp3_0⟩
  have hL := hp3_0
  refine w_istore (lv' := [some (.ref 0), some (.int (jI s)), some (.int (jI k)), some (.int (jI z3)), none]) rfl ?_
  refine w_iload rfl ?_
  refine w_ieq (by omega) (fun h4 => ?_) (fun h4 => ?_)
  · skip
    refine w_step rfl ?_
    refine w_aload rfl ?_
    refine w_getR (g_0_6 _) ?_
    refine w_iload rfl ?_
    refine w_slots (i := (s).toNat) (by omega) (by omega) ?_
    refine w_astore (lv' := [some (.ref 0), some (.int (jI s)), some (.int (jI k)), some (.int (jI z3)), some (.ref (53 + 3 * (s).toNat))]) rfl ?_
    refine w_aload rfl ?_
    refine w_getI (gL_2 (isL_s (i := (s).toNat) (by omega)) _) (feL_2 (isL_s (i := (s).toNat) (by omega))) ok (fun z5 hz5 hl5 hh5 => ?_)
    refine w_iload rfl ?_
    refine w_callS2I rfl (c_X0_isOf ok (by omega) (by omega) (by omega) (by omega)) ?_
    rintro z6 t6 ⟨rfl, hp6_0⟩
    rcases hp6_0 with ⟨rfl, hp6_0⟩ | ⟨rfl, hp6_0⟩
    · skip
      refine w_ieq (by omega) (fun _ => ?_) (fun h => absurd (by omega) h)
      refine w_step rfl ?_
      refine w_push kc_m1000000012 ?_
      refine w_goto ?_
      refine w_step rfl ?_
      refine w_retI rfl ?_
      exact ⟨rfl, (by (try rcases hL with hL | hL | hL) <;> first | (exact Or.inl ⟨by omega, by first | omega | (subst_vars; rfl)⟩) | (exact Or.inr (Or.inl ⟨by omega, by omega, by first | omega | (subst_vars; rfl)⟩)) | (exact Or.inr (Or.inr (Or.inl ⟨by omega, by omega, by omega, by first | omega | (subst_vars; rfl)⟩))) | (exact Or.inr (Or.inr (Or.inr (Or.inl ⟨by omega, by omega, by omega, by first | omega | (subst_vars; rfl)⟩)))) | (exact Or.inr (Or.inr (Or.inr (Or.inr (⟨by omega, by omega, by omega, by first | omega | (subst_vars; rfl)⟩))))))⟩
    refine w_ieq (by omega) (fun h => absurd h (by omega)) (fun _ => ?_)
    refine w_aload rfl ?_
    refine w_getI (gL_2 (isL_s (i := (s).toNat) (by omega)) _) (feL_2 (isL_s (i := (s).toNat) (by omega))) ok (fun z7 hz7 hl7 hh7 => ?_)
    refine w_aload rfl ?_
    refine w_getI (gL_3 (isL_s (i := (s).toNat) (by omega)) _) (feL_3 (isL_s (i := (s).toNat) (by omega))) ok (fun z8 hz8 hl8 hh8 => ?_)
    refine w_aload rfl ?_
    refine w_getI (gL_4 (isL_s (i := (s).toNat) (by omega)) _) (feL_4 (isL_s (i := (s).toNat) (by omega))) ok (fun z9 hz9 hl9 hh9 => ?_)
    refine w_callS3I rfl (c_X0_worth ok (by omega) (by omega) (by omega) (by omega) (by omega) (by omega)) ?_
    rintro z10 t10 ⟨rfl, hp10_0, hp10_1, hp10_2⟩
    refine w_goto ?_
    refine w_step rfl ?_
    refine w_retI rfl ?_
    exact ⟨rfl, (by (try rcases hL with hL | hL | hL) <;> first | (exact Or.inl ⟨by omega, by first | omega | (subst_vars; rfl)⟩) | (exact Or.inr (Or.inl ⟨by omega, by omega, by first | omega | (subst_vars; rfl)⟩)) | (exact Or.inr (Or.inr (Or.inl ⟨by omega, by omega, by omega, by first | omega | (subst_vars; rfl)⟩))) | (exact Or.inr (Or.inr (Or.inr (Or.inl ⟨by omega, by omega, by omega, by first | omega | (subst_vars; rfl)⟩)))) | (exact Or.inr (Or.inr (Or.inr (Or.inr (⟨by omega, by omega, by omega, by first | omega | (subst_vars; rfl)⟩))))))⟩
  refine w_iload rfl ?_
  refine w_retI rfl ?_
  exact ⟨rfl, (by (try rcases hL with hL | hL | hL) <;> first | (exact Or.inl ⟨by omega, by first | omega | (subst_vars; rfl)⟩) | (exact Or.inr (Or.inl ⟨by omega, by omega, by first | omega | (subst_vars; rfl)⟩)) | (exact Or.inr (Or.inr (Or.inl ⟨by omega, by omega, by omega, by first | omega | (subst_vars; rfl)⟩))) | (exact Or.inr (Or.inr (Or.inr (Or.inl ⟨by omega, by omega, by omega, by first | omega | (subst_vars; rfl)⟩)))) | (exact Or.inr (Or.inr (Or.inr (Or.inr (⟨by omega, by omega, by omega, by first | omega | (subst_vars; rfl)⟩))))))⟩
set_option maxRecDepth 100000 in
set_option maxHeartbeats 4000000 in
theorem c_X8_item {d : Nat} {t : TS} {s p : Int}  (ok : OK t) (q0 : -2147483648 ≤ s) (q1 : s ≤ 2147483647) (q2 : -2147483648 ≤ p) (q3 : p ≤ 2147483647) : CI (EX FU (d + 3)) 112 [.ref 0, .int (jI s), .int (jI p)] (mk t) (fun z t' => t = t' ∧ (((¬ (0 ≤ s ∧ s ≤ 4)) ∧ z = (-1000000001)) ∨ ((0 ≤ s ∧ s ≤ 4) ∧ (tI t (53 + 3 * s.toNat) 1 = 0) ∧ z = (-1000000011)) ∨ ((0 ≤ s ∧ s ≤ 4) ∧ (¬ tI t (53 + 3 * s.toNat) 1 = 0) ∧ (¬ tI t (53 + 3 * s.toNat) 1 = 2) ∧ z = (-1000000012)) ∨ ((0 ≤ s ∧ s ≤ 4) ∧ (tI t (53 + 3 * s.toNat) 1 = 2) ∧ (¬ (0 ≤ p ∧ p ≤ tI t ((53 + 3 * s.toNat) + 1) 2 - 1)) ∧ z = (-1000000013)) ∨ ((0 ≤ s ∧ s ≤ 4) ∧ (tI t (53 + 3 * s.toNat) 1 = 2) ∧ (0 ≤ p ∧ p ≤ tI t ((53 + 3 * s.toNat) + 1) 2 - 1) ∧ (tA t ((53 + 3 * s.toNat) + 1 + 1) p.toNat = (-1000000005)) ∧ z = (-1000000012)) ∨ ((0 ≤ s ∧ s ≤ 4) ∧ (tI t (53 + 3 * s.toNat) 1 = 2) ∧ (0 ≤ p ∧ p ≤ tI t ((53 + 3 * s.toNat) + 1) 2 - 1) ∧ (¬ tA t ((53 + 3 * s.toNat) + 1 + 1) p.toNat = (-1000000005)) ∧ z = tA t ((53 + 3 * s.toNat) + 1 + 1) p.toNat))) := by
  refine CI_ent (d := d + 2) (Bk := bX8_item) (nL := 5) rfl rfl rfl (Nat.le_of_ble_eq_true rfl) ?_
  show Rn _ 1000000 0 [some (.ref 0), some (.int (jI s)), some (.int (jI p)), none, none] [] _ _
  have hn0 := (ok.f fe_1_10).1
  have hn1 := (ok.f fe_1_10).2
  refine w_step rfl ?_
  refine w_iload rfl ?_
  refine w_callS1I rfl (c_X8_isSlot ok (by omega) (by omega)) ?_
  rintro z1 t1 ⟨rfl, hp1_0⟩
  rcases hp1_0 with ⟨rfl, hp1_0⟩ | ⟨rfl, hp1_0⟩
  · skip
    refine w_ine (by omega) (fun h => absurd h (by omega)) (fun _ => ?_)
    refine w_push kc_m1000000001 ?_
    refine w_retI rfl ?_
    exact ⟨rfl, (by (try rcases hL with hL | hL | hL) <;> first | (exact Or.inl ⟨by omega, by first | omega | (subst_vars; rfl)⟩) | (exact Or.inr (Or.inl ⟨by omega, by omega, by first | omega | (subst_vars; rfl)⟩)) | (exact Or.inr (Or.inr (Or.inl ⟨by omega, by omega, by omega, by first | omega | (subst_vars; rfl)⟩))) | (exact Or.inr (Or.inr (Or.inr (Or.inl ⟨by omega, by omega, by omega, by first | omega | (subst_vars; rfl)⟩)))) | (exact Or.inr (Or.inr (Or.inr (Or.inr (Or.inl ⟨by omega, by omega, by omega, by omega, by first | omega | (subst_vars; rfl)⟩))))) | (exact Or.inr (Or.inr (Or.inr (Or.inr (Or.inr (⟨by omega, by omega, by omega, by omega, by first | omega | (subst_vars; rfl)⟩)))))))⟩
  refine w_ine (by omega) (fun _ => ?_) (fun h => absurd (by omega) h)
  refine w_step rfl ?_
  refine w_aload rfl ?_
  refine w_iload rfl ?_
  refine w_push kc_2 ?_
  refine w_callV2I (oj_0 _).choose_spec rfl (c_X8_lookFor ok (by omega) (by omega) (by omega) (by omega)) ?_
  rintro z2 t2 ⟨rfl, hp2_0⟩
  have hL := hp2_0
  refine w_istore (lv' := [some (.ref 0), some (.int (jI s)), some (.int (jI p)), some (.int (jI z2)), none]) rfl ?_
  refine w_iload rfl ?_
  refine w_ieq (by omega) (fun h3 => ?_) (fun h3 => ?_)
  · skip
    refine w_step rfl ?_
    refine w_aload rfl ?_
    refine w_getR (g_0_6 _) ?_
    refine w_iload rfl ?_
    refine w_slots (i := (s).toNat) (by omega) (by omega) ?_
    refine w_getR (gL_0 (isL_s (i := (s).toNat) (by omega)) _) ?_
    refine w_astore (lv' := [some (.ref 0), some (.int (jI s)), some (.int (jI p)), some (.int (jI z2)), some (.ref ((53 + 3 * (s).toNat) + 1))]) rfl ?_
    refine w_iload rfl ?_
    refine w_push kc_0 ?_
    refine w_aload rfl ?_
    refine w_getI (gH_2 (isH_l (isL_s (i := (s).toNat) (by omega))) _) (feH_2 (isH_l (isL_s (i := (s).toNat) (by omega)))) ok (fun z4 hz4 hl4 hh4 => ?_)
    refine w_push kc_1 ?_
    refine w_sub ?_
    refine w_callS3I rfl (c_X8_within ok (by omega) (by omega) (by omega) (by omega) (by omega) (by omega)) ?_
    rintro z5 t5 ⟨rfl, hp5_0⟩
    rcases hp5_0 with ⟨rfl, hp5_0⟩ | ⟨rfl, hp5_0⟩
    · skip
      refine w_ine (by omega) (fun h => absurd h (by omega)) (fun _ => ?_)
      refine w_push kc_m1000000013 ?_
      refine w_retI rfl ?_
      exact ⟨rfl, (by (try rcases hL with hL | hL | hL) <;> first | (exact Or.inl ⟨by omega, by first | omega | (subst_vars; rfl)⟩) | (exact Or.inr (Or.inl ⟨by omega, by omega, by first | omega | (subst_vars; rfl)⟩)) | (exact Or.inr (Or.inr (Or.inl ⟨by omega, by omega, by omega, by first | omega | (subst_vars; rfl)⟩))) | (exact Or.inr (Or.inr (Or.inr (Or.inl ⟨by omega, by omega, by omega, by first | omega | (subst_vars; rfl)⟩)))) | (exact Or.inr (Or.inr (Or.inr (Or.inr (Or.inl ⟨by omega, by omega, by omega, by omega, by first | omega | (subst_vars; rfl)⟩))))) | (exact Or.inr (Or.inr (Or.inr (Or.inr (Or.inr (⟨by omega, by omega, by omega, by omega, by first | omega | (subst_vars; rfl)⟩)))))))⟩
    refine w_ine (by omega) (fun _ => ?_) (fun h => absurd (by omega) h)
    refine w_step rfl ?_
    refine w_aload rfl ?_
    refine w_iload rfl ?_
    refine w_callV1I (ojH (isH_l (isL_s (i := (s).toNat) (by omega))) _).choose_spec rfl (c_X2_isNumber (isH_l (isL_s (i := (s).toNat) (by omega))) ok (by omega) (by omega)) ?_
    rintro z6 t6 ⟨rfl, hp6_0⟩
    rcases hp6_0 with ⟨rfl, hp6_0⟩ | ⟨rfl, hp6_0⟩
    · skip
      refine w_ieq (by omega) (fun _ => ?_) (fun h => absurd (by omega) h)
      refine w_step rfl ?_
      refine w_push kc_m1000000012 ?_
      refine w_goto ?_
      refine w_step rfl ?_
      refine w_retI rfl ?_
      exact ⟨rfl, (by (try rcases hL with hL | hL | hL) <;> first | (exact Or.inl ⟨by omega, by first | omega | (subst_vars; rfl)⟩) | (exact Or.inr (Or.inl ⟨by omega, by omega, by first | omega | (subst_vars; rfl)⟩)) | (exact Or.inr (Or.inr (Or.inl ⟨by omega, by omega, by omega, by first | omega | (subst_vars; rfl)⟩))) | (exact Or.inr (Or.inr (Or.inr (Or.inl ⟨by omega, by omega, by omega, by first | omega | (subst_vars; rfl)⟩)))) | (exact Or.inr (Or.inr (Or.inr (Or.inr (Or.inl ⟨by omega, by omega, by omega, by omega, by first | omega | (subst_vars; rfl)⟩))))) | (exact Or.inr (Or.inr (Or.inr (Or.inr (Or.inr (⟨by omega, by omega, by omega, by omega, by first | omega | (subst_vars; rfl)⟩)))))))⟩
    refine w_ieq (by omega) (fun h => absurd h (by omega)) (fun _ => ?_)
    refine w_aload rfl ?_
    refine w_getR (gH_0 (isH_l (isL_s (i := (s).toNat) (by omega))) _) ?_
    refine w_iload rfl ?_
    refine w_iald (i := (p).toNat) (aiH_1 (isH_l (isL_s (i := (s).toNat) (by omega))) _) (by omega) (by omega) (aeH_1 (isH_l (isL_s (i := (s).toNat) (by omega))) _) ok (fun z7 hz7 hl7 hh7 => ?_)
    refine w_goto ?_
    refine w_step rfl ?_
    refine w_retI rfl ?_
    exact ⟨rfl, (by (try rcases hL with hL | hL | hL) <;> first | (exact Or.inl ⟨by omega, by first | omega | (subst_vars; rfl)⟩) | (exact Or.inr (Or.inl ⟨by omega, by omega, by first | omega | (subst_vars; rfl)⟩)) | (exact Or.inr (Or.inr (Or.inl ⟨by omega, by omega, by omega, by first | omega | (subst_vars; rfl)⟩))) | (exact Or.inr (Or.inr (Or.inr (Or.inl ⟨by omega, by omega, by omega, by first | omega | (subst_vars; rfl)⟩)))) | (exact Or.inr (Or.inr (Or.inr (Or.inr (Or.inl ⟨by omega, by omega, by omega, by omega, by first | omega | (subst_vars; rfl)⟩))))) | (exact Or.inr (Or.inr (Or.inr (Or.inr (Or.inr (⟨by omega, by omega, by omega, by omega, by first | omega | (subst_vars; rfl)⟩)))))))⟩
  refine w_iload rfl ?_
  refine w_retI rfl ?_
  exact ⟨rfl, (by (try rcases hL with hL | hL | hL) <;> first | (exact Or.inl ⟨by omega, by first | omega | (subst_vars; rfl)⟩) | (exact Or.inr (Or.inl ⟨by omega, by omega, by first | omega | (subst_vars; rfl)⟩)) | (exact Or.inr (Or.inr (Or.inl ⟨by omega, by omega, by omega, by first | omega | (subst_vars; rfl)⟩))) | (exact Or.inr (Or.inr (Or.inr (Or.inl ⟨by omega, by omega, by omega, by first | omega | (subst_vars; rfl)⟩)))) | (exact Or.inr (Or.inr (Or.inr (Or.inr (Or.inl ⟨by omega, by omega, by omega, by omega, by first | omega | (subst_vars; rfl)⟩))))) | (exact Or.inr (Or.inr (Or.inr (Or.inr (Or.inr (⟨by omega, by omega, by omega, by omega, by first | omega | (subst_vars; rfl)⟩)))))))⟩
set_option maxRecDepth 100000 in
set_option maxHeartbeats 4000000 in
theorem c_X8_rest {d : Nat} {t : TS} {s n : Int}  (ok : OK t) (q0 : -2147483648 ≤ s) (q1 : s ≤ 2147483647) (q2 : -2147483648 ≤ n) (q3 : n ≤ 2147483647) : CI (EX FU (d + 3)) 113 [.ref 0, .int (jI s), .int (jI n)] (mk t) (fun z t' => t = t' ∧ (((¬ (0 ≤ s ∧ s ≤ 4)) ∧ z = (-1000000001)) ∨ ((0 ≤ s ∧ s ≤ 4) ∧ (tI t (53 + 3 * s.toNat) 1 = 0) ∧ z = (-1000000011)) ∨ ((0 ≤ s ∧ s ≤ 4) ∧ (¬ tI t (53 + 3 * s.toNat) 1 = 0) ∧ (¬ tI t (53 + 3 * s.toNat) 1 = 3) ∧ z = (-1000000012)) ∨ ((0 ≤ s ∧ s ≤ 4) ∧ (tI t (53 + 3 * s.toNat) 1 = 3) ∧ (n = 0) ∧ z = (-1000000002)) ∨ ((0 ≤ s ∧ s ≤ 4) ∧ (tI t (53 + 3 * s.toNat) 1 = 3) ∧ (¬ n = 0) ∧ z = modF (tI t (53 + 3 * s.toNat) 5) n))) := by
  refine CI_ent (d := d + 2) (Bk := bX8_rest) (nL := 4) rfl rfl rfl (Nat.le_of_ble_eq_true rfl) ?_
  show Rn _ 1000000 0 [some (.ref 0), some (.int (jI s)), some (.int (jI n)), none] [] _ _
  have hn0 := (ok.f fe_1_10).1
  have hn1 := (ok.f fe_1_10).2
  refine w_step rfl ?_
  refine w_iload rfl ?_
  refine w_callS1I rfl (c_X8_isSlot ok (by omega) (by omega)) ?_
  rintro z1 t1 ⟨rfl, hp1_0⟩
  rcases hp1_0 with ⟨rfl, hp1_0⟩ | ⟨rfl, hp1_0⟩
  · skip
    refine w_ine (by omega) (fun h => absurd h (by omega)) (fun _ => ?_)
    refine w_push kc_m1000000001 ?_
    refine w_retI rfl ?_
    exact ⟨rfl, (by (try rcases hL with hL | hL | hL) <;> first | (exact Or.inl ⟨by omega, by first | omega | (subst_vars; rfl)⟩) | (exact Or.inr (Or.inl ⟨by omega, by omega, by first | omega | (subst_vars; rfl)⟩)) | (exact Or.inr (Or.inr (Or.inl ⟨by omega, by omega, by omega, by first | omega | (subst_vars; rfl)⟩))) | (exact Or.inr (Or.inr (Or.inr (Or.inl ⟨by omega, by omega, by omega, by first | omega | (subst_vars; rfl)⟩)))) | (exact Or.inr (Or.inr (Or.inr (Or.inr (⟨by omega, by omega, by omega, by first | omega | (subst_vars; rfl)⟩))))))⟩
  refine w_ine (by omega) (fun _ => ?_) (fun h => absurd (by omega) h)
  refine w_step rfl ?_
  refine w_aload rfl ?_
  refine w_iload rfl ?_
  refine w_push kc_3 ?_
  refine w_callV2I (oj_0 _).choose_spec rfl (c_X8_lookFor ok (by omega) (by omega) (by omega) (by omega)) ?_
  rintro z2 t2 ⟨rfl, hp2_0⟩
  have hL := hp2_0
  refine w_istore (lv' := [some (.ref 0), some (.int (jI s)), some (.int (jI n)), some (.int (jI z2))]) rfl ?_
  refine w_iload rfl ?_
  refine w_ieq (by omega) (fun h3 => ?_) (fun h3 => ?_)
  · skip
    refine w_step rfl ?_
    refine w_iload rfl ?_
    refine w_ine (by omega) (fun h4 => ?_) (fun h4 => ?_)
    · skip
      refine w_step rfl ?_
      refine w_aload rfl ?_
      refine w_getR (g_0_6 _) ?_
      refine w_iload rfl ?_
      refine w_slots (i := (s).toNat) (by omega) (by omega) ?_
      refine w_getI (gL_5 (isL_s (i := (s).toNat) (by omega)) _) (feL_5 (isL_s (i := (s).toNat) (by omega))) ok (fun z5 hz5 hl5 hh5 => ?_)
      refine w_iload rfl ?_
      refine w_divG (by omega) (fun z6 hz6 hl6 hh6 => ?_)
      refine w_goto ?_
      refine w_step rfl ?_
      refine w_retI rfl ?_
      exact ⟨rfl, (by (try rcases hL with hL | hL | hL) <;> first | (exact Or.inl ⟨by omega, by first | omega | (subst_vars; rfl)⟩) | (exact Or.inr (Or.inl ⟨by omega, by omega, by first | omega | (subst_vars; rfl)⟩)) | (exact Or.inr (Or.inr (Or.inl ⟨by omega, by omega, by omega, by first | omega | (subst_vars; rfl)⟩))) | (exact Or.inr (Or.inr (Or.inr (Or.inl ⟨by omega, by omega, by omega, by first | omega | (subst_vars; rfl)⟩)))) | (exact Or.inr (Or.inr (Or.inr (Or.inr (⟨by omega, by omega, by omega, by first | omega | (subst_vars; rfl)⟩))))))⟩
    refine w_push kc_m1000000002 ?_
    refine w_goto ?_
    refine w_step rfl ?_
    refine w_retI rfl ?_
    exact ⟨rfl, (by (try rcases hL with hL | hL | hL) <;> first | (exact Or.inl ⟨by omega, by first | omega | (subst_vars; rfl)⟩) | (exact Or.inr (Or.inl ⟨by omega, by omega, by first | omega | (subst_vars; rfl)⟩)) | (exact Or.inr (Or.inr (Or.inl ⟨by omega, by omega, by omega, by first | omega | (subst_vars; rfl)⟩))) | (exact Or.inr (Or.inr (Or.inr (Or.inl ⟨by omega, by omega, by omega, by first | omega | (subst_vars; rfl)⟩)))) | (exact Or.inr (Or.inr (Or.inr (Or.inr (⟨by omega, by omega, by omega, by first | omega | (subst_vars; rfl)⟩))))))⟩
  refine w_iload rfl ?_
  refine w_retI rfl ?_
  exact ⟨rfl, (by (try rcases hL with hL | hL | hL) <;> first | (exact Or.inl ⟨by omega, by first | omega | (subst_vars; rfl)⟩) | (exact Or.inr (Or.inl ⟨by omega, by omega, by first | omega | (subst_vars; rfl)⟩)) | (exact Or.inr (Or.inr (Or.inl ⟨by omega, by omega, by omega, by first | omega | (subst_vars; rfl)⟩))) | (exact Or.inr (Or.inr (Or.inr (Or.inl ⟨by omega, by omega, by omega, by first | omega | (subst_vars; rfl)⟩)))) | (exact Or.inr (Or.inr (Or.inr (Or.inr (⟨by omega, by omega, by omega, by first | omega | (subst_vars; rfl)⟩))))))⟩
set_option maxRecDepth 100000 in
set_option maxHeartbeats 4000000 in
theorem c_X8_tell {d : Nat} {t : TS} {v : Int}  (ok : OK t) (q0 : -2147483648 ≤ v) (q1 : v ≤ 2147483647) : CI (EX FU (d + 1)) 114 [.ref 0, .int (jI v)] (mk t) (fun z t' => OK t' ∧ Fr [(0, 8), (44, 100)] t t' ∧ (((60 ≤ tI t 0 8) ∧ z = (-1000000003) ∧ t' = t) ∨ ((tI t 0 8 < 60) ∧ z = tI t 0 8 + 1 ∧ (tI t' 0 8 = tI t 0 8 + 1) ∧ (∀ i, tA t' 44 i = if i = (tI t 0 8).toNat then v else tA t 44 i)))) := by
  refine CI_ent (d := d + 0) (Bk := bX8_tell) (nL := 2) rfl rfl rfl (Nat.le_of_ble_eq_true rfl) ?_
  show Rn _ 1000000 0 [some (.ref 0), some (.int (jI v))] [] _ _
  have fr : Fr [(0, 8), (44, 100)] t t := Fr.rf _ _
  have hn0 := (ok.f fe_1_10).1
  have hn1 := (ok.f fe_1_10).2
  refine w_step rfl ?_
  refine w_aload rfl ?_
  refine w_getI (g_0_8 _) fe_0_8 ok (fun z1 hz1 hl1 hh1 => ?_)
  refine w_push kc_60 ?_
  refine w_clt (by omega) (fun h2 => ?_) (fun h2 => ?_)
  · skip
    refine w_step rfl ?_
    refine w_aload rfl ?_
    refine w_getR (g_0_7 _) ?_
    refine w_aload rfl ?_
    refine w_getI (g_0_8 _) fe_0_8 ok (fun z3 hz3 hl3 hh3 => ?_)
    refine w_iload rfl ?_
    refine w_iast (i := (z3).toNat) (ai_44 _) rfl (by omega) (by omega) (ae_44 _) ok (by omega) (fun t4 ht4 ok4 => ?_)
    have fr4 := fr.uA ht4 (by simp)
    have e1 : tI t4 0 8 = tI t 0 8 := by rw [ht4, tI_uA]
    refine w_aload rfl ?_
    refine w_dupR ?_
    refine w_getI (g_0_8 _) fe_0_8 ok4 (fun z5 hz5 hl5 hh5 => ?_)
    refine w_push kc_1 ?_
    refine w_add ?_
    refine w_putI (p_0_8 _) fe_0_8 ok4 (by omega) (fun t6 ht6 ok6 => ?_)
    have fr6 := fr4.uI ht6 (by simp)
    have e2 : tI t6 0 8 = tI t 0 8 + 1 := by rw [ht6, tI_uI, if_pos ⟨rfl, rfl⟩]; omega
    refine w_aload rfl ?_
    refine w_getI (g_0_8 _) fe_0_8 ok6 (fun z7 hz7 hl7 hh7 => ?_)
    refine w_retI rfl ?_
    exact ⟨ok6, fr6, (by first | (exact Or.inl ⟨by omega, by first | omega | (subst_vars; rfl), rfl⟩) | (exact Or.inr (⟨by omega, by first | omega | (subst_vars; rfl), e2, by intro i; subst_vars; simp [tA_uI, tA_uA]⟩)))⟩
  refine w_push kc_m1000000003 ?_
  refine w_retI rfl ?_
  exact ⟨ok, fr, (by first | (exact Or.inl ⟨by omega, by first | omega | (subst_vars; rfl), rfl⟩) | (exact Or.inr (⟨by omega, by first | omega | (subst_vars; rfl), e2, by intro i; subst_vars; simp [tA_uI, tA_uA]⟩)))⟩
set_option maxRecDepth 100000 in
set_option maxHeartbeats 4000000 in
theorem c_X8_check {d : Nat} {t : TS} {n : Int}  (ok : OK t) (q0 : -2147483648 ≤ n) (q1 : n ≤ 2147483647) (q2 : 0 ≤ tI t 12 13) (q3 : tI t 12 13 ≤ 9999) : CI (EX FU (d + 6)) 115 [.ref 0, .int (jI n)] (mk t) (fun z t' => OK t' ∧ Fr [(0, 8), (24, 10), (24, 11), (24, 12), (24, 13), (24, 14), (25, 100), (26, 100), (27, 100), (28, 100), (29, 100), (30, 100), (31, 100), (32, 100), (34, 100), (33, 101)] t t' ∧ (-2147483648 ≤ z) ∧ (z ≤ 2147483647) ∧ (tI t' 0 8 = 0)) := by
  refine CI_ent (d := d + 5) (Bk := bX8_check) (nL := 4) rfl rfl rfl (Nat.le_of_ble_eq_true rfl) ?_
  show Rn _ 1000000 0 [some (.ref 0), some (.int (jI n)), none, none] [] _ _
  have fr : Fr [(0, 8), (24, 10), (24, 11), (24, 12), (24, 13), (24, 14), (25, 100), (26, 100), (27, 100), (28, 100), (29, 100), (30, 100), (31, 100), (32, 100), (34, 100), (33, 101)] t t := Fr.rf _ _
  have hn0 := (ok.f fe_1_10).1
  have hn1 := (ok.f fe_1_10).2
  refine w_step rfl ?_
  refine w_aload rfl ?_
  refine w_getI (g_0_8 _) fe_0_8 ok (fun z1 hz1 hl1 hh1 => ?_)
  refine w_istore (lv' := [some (.ref 0), some (.int (jI n)), some (.int (jI z1)), none]) rfl ?_
  refine w_aload rfl ?_
  refine w_push kc_0 ?_
  refine w_putI (p_0_8 _) fe_0_8 ok (by omega) (fun t2 ht2 ok2 => ?_)
  have fr2 := fr.uI ht2 (by simp)
  have e0 : tI t2 0 8 = 0 := by rw [ht2, tI_uI, if_pos ⟨rfl, rfl⟩]
  have ed : tI t2 12 13 = tI t 12 13 := by rw [ht2, tI_uI, if_neg (by decide)]
  refine w_iload rfl ?_
  refine w_push kc_1 ?_
  refine w_push kc_30 ?_
  refine w_callS3I rfl (c_X8_within ok2 (by omega) (by omega) (by omega) (by omega) (by omega) (by omega)) ?_
  rintro z3 t3 ⟨rfl, hp3_0⟩
  rcases hp3_0 with ⟨rfl, hp3_0⟩ | ⟨rfl, hp3_0⟩
  · skip
    refine w_ine (by omega) (fun h => absurd h (by omega)) (fun _ => ?_)
    refine w_push kc_m1000000001 ?_
    refine w_retI rfl ?_
    exact ⟨ok2, fr2, (by omega), (by omega), e0⟩
  refine w_ine (by omega) (fun _ => ?_) (fun h => absurd (by omega) h)
  refine w_step rfl ?_
  refine w_aload rfl ?_
  refine w_getI (g_0_9 _) fe_0_9 ok2 (fun z4 hz4 hl4 hh4 => ?_)
  refine w_ine (by omega) (fun h5 => ?_) (fun h5 => ?_)
  · skip
    refine w_step rfl ?_
    refine w_aload rfl ?_
    refine w_getR (g_0_2 _) ?_
    refine w_aload rfl ?_
    refine w_getR (g_0_1 _) ?_
    refine w_iload rfl ?_
    refine w_push kc_9999 ?_
    refine w_aload rfl ?_
    refine w_getR (g_0_1 _) ?_
    refine w_getI (g_12_13 _) fe_12_13 ok2 (fun z6 hz6 hl6 hh6 => ?_)
    refine w_sub ?_
    refine w_min rfl (by omega) ?_
    refine w_aload rfl ?_
    refine w_getR (g_0_7 _) ?_
    refine w_iload rfl ?_
    refine w_callV4I (oj_23 _).choose_spec rfl (c_X7_rightAhead ok2 (by omega) (by omega) (by omega) (by omega)) ?_
    rintro z7 t7 ⟨ok7, fq7, hp7_0, hp7_1⟩
    have fr7 := fr2.then fq7 (by simp)
    have e0 := (fq7.1 0 8 (by simp)).trans e0
    refine w_istore (lv' := [some (.ref 0), some (.int (jI n)), some (.int (jI z1)), some (.int (jI z7))]) rfl ?_
    refine w_iload rfl ?_
    refine w_push kc_m1 ?_
    refine w_cne (by omega) (fun h8 => ?_) (fun h8 => ?_)
    · skip
      refine w_step rfl ?_
      refine w_push kc_1 ?_
      refine w_iload rfl ?_
      refine w_add ?_
      refine w_goto ?_
      refine w_step rfl ?_
      refine w_retI rfl ?_
      exact ⟨ok7, fr7, (by omega), (by omega), e0⟩
    refine w_push kc_0 ?_
    refine w_goto ?_
    refine w_step rfl ?_
    refine w_retI rfl ?_
    exact ⟨ok7, fr7, (by omega), (by omega), e0⟩
  refine w_push kc_m1000000002 ?_
  refine w_retI rfl ?_
  exact ⟨ok2, fr2, (by omega), (by omega), e0⟩
set_option maxRecDepth 100000 in
set_option maxHeartbeats 4000000 in
theorem c_X8_keep {d : Nat} {t : TS}  (ok : OK t) : CI (EX FU (d + 2)) 116 [.ref 0] (mk t) (fun z t' => OK t' ∧ Fr [(12, 10), (12, 11), (12, 12), (12, 13), (12, 14), (13, 100), (14, 100), (15, 100), (16, 100), (17, 100), (18, 100), (19, 100), (20, 100), (22, 100), (21, 101), (0, 9)] t t' ∧ (z = tI t 1 10) ∧ (tI t' 0 9 = 1) ∧ (tI t' 12 10 = tI t 1 10) ∧ (tI t' 12 11 = tI t 1 11) ∧ (tI t' 12 12 = tI t 1 12) ∧ (tI t' 12 13 = tI t 1 13) ∧ (tI t' 12 14 = tI t 1 14) ∧ (∀ i : Nat, i < 12 → tA t' 13 i = tA t 2 i) ∧ (∀ i : Nat, i < 12 → tA t' 14 i = tA t 3 i) ∧ (∀ i : Nat, i < 12 → tA t' 15 i = tA t 4 i) ∧ (∀ i : Nat, i < 12 → tA t' 16 i = tA t 5 i) ∧ (∀ i : Nat, i < 12 → tA t' 17 i = tA t 6 i) ∧ (∀ i : Nat, i < 12 → tA t' 18 i = tA t 7 i) ∧ (∀ i : Nat, i < 24 → tA t' 19 i = tA t 8 i) ∧ (∀ i : Nat, i < 96 → tA t' 20 i = tA t 9 i) ∧ (∀ i : Nat, i < 3 → tA t' 22 i = tA t 11 i) ∧ (∀ i : Nat, i < 14 → tT t' 21 i = tT t 10 i)) := by
  refine CI_ent (d := d + 1) (Bk := bX8_keep) (nL := 1) rfl rfl rfl (Nat.le_of_ble_eq_true rfl) ?_
  show Rn _ 1000000 0 [some (.ref 0)] [] _ _
  have fr : Fr [(12, 10), (12, 11), (12, 12), (12, 13), (12, 14), (13, 100), (14, 100), (15, 100), (16, 100), (17, 100), (18, 100), (19, 100), (20, 100), (22, 100), (21, 101), (0, 9)] t t := Fr.rf _ _
  have hn0 := (ok.f fe_1_10).1
  have hn1 := (ok.f fe_1_10).2
  refine w_step rfl ?_
  refine w_aload rfl ?_
  refine w_getR (g_0_1 _) ?_
  refine w_aload rfl ?_
  refine w_getR (g_0_0 _) ?_
  refine w_callV1V (oj_12 _).choose_spec rfl (c_X4_become_12_1 ok) ?_
  rintro t1 ⟨ok1, fq1, hp1_0, hp1_1, hp1_2, hp1_3, hp1_4, hp1_5, hp1_6, hp1_7, hp1_8, hp1_9, hp1_10, hp1_11, hp1_12, hp1_13, hp1_14⟩
  have fr1 := fr.then fq1 (by simp)
  have e0 := hp1_0
  have e1 := hp1_1
  have e2 := hp1_2
  have e3 := hp1_3
  have e4 := hp1_4
  have e5 := hp1_5
  have e6 := hp1_6
  have e7 := hp1_7
  have e8 := hp1_8
  have e9 := hp1_9
  have e10 := hp1_10
  have e11 := hp1_11
  have e12 := hp1_12
  have e13 := hp1_13
  have e14 := hp1_14
  have eN := fq1.1 1 10 (by simp)
  refine w_aload rfl ?_
  refine w_push kc_1 ?_
  refine w_putZ (by omega) (p_0_9 _) fe_0_9 ok1 (by omega) (fun t2 ht2 ok2 => ?_)
  have fr2 := fr1.uI ht2 (by simp)
  have eK := ht2
  refine w_aload rfl ?_
  refine w_getR (g_0_0 _) ?_
  refine w_getI (g_1_10 _) fe_1_10 ok2 (fun z3 hz3 hl3 hh3 => ?_)
  refine w_retI rfl ?_
  exact ⟨ok2, fr2, (by rw [hz3, eK, tI_uI, if_neg (by decide)]; exact eN), (by rw [eK, tI_uI, if_pos ⟨rfl, rfl⟩]), (by rw [eK, tI_uI, if_neg (by decide)]; exact e0), (by rw [eK, tI_uI, if_neg (by decide)]; exact e1), (by rw [eK, tI_uI, if_neg (by decide)]; exact e2), (by rw [eK, tI_uI, if_neg (by decide)]; exact e3), (by rw [eK, tI_uI, if_neg (by decide)]; exact e4), (by rw [eK]; exact e5), (by rw [eK]; exact e6), (by rw [eK]; exact e7), (by rw [eK]; exact e8), (by rw [eK]; exact e9), (by rw [eK]; exact e10), (by rw [eK]; exact e11), (by rw [eK]; exact e12), (by rw [eK]; exact e13), (by rw [eK]; exact e14)⟩
set_option maxRecDepth 100000 in
set_option maxHeartbeats 4000000 in
theorem c_X8_back {d : Nat} {t : TS}  (ok : OK t) : CI (EX FU (d + 2)) 117 [.ref 0] (mk t) (fun z t' => OK t' ∧ Fr [(1, 10), (1, 11), (1, 12), (1, 13), (1, 14), (2, 100), (3, 100), (4, 100), (5, 100), (6, 100), (7, 100), (8, 100), (9, 100), (11, 100), (10, 101)] t t' ∧ (((tI t 0 9 = 0) ∧ z = (-1000000002) ∧ t' = t) ∨ ((¬ tI t 0 9 = 0) ∧ z = tI t 12 10 ∧ (tI t' 1 10 = tI t 12 10) ∧ (tI t' 1 11 = tI t 12 11) ∧ (tI t' 1 12 = tI t 12 12) ∧ (tI t' 1 13 = tI t 12 13) ∧ (tI t' 1 14 = tI t 12 14) ∧ (∀ i : Nat, i < 12 → tA t' 2 i = tA t 13 i) ∧ (∀ i : Nat, i < 12 → tA t' 3 i = tA t 14 i) ∧ (∀ i : Nat, i < 12 → tA t' 4 i = tA t 15 i) ∧ (∀ i : Nat, i < 12 → tA t' 5 i = tA t 16 i) ∧ (∀ i : Nat, i < 12 → tA t' 6 i = tA t 17 i) ∧ (∀ i : Nat, i < 12 → tA t' 7 i = tA t 18 i) ∧ (∀ i : Nat, i < 24 → tA t' 8 i = tA t 19 i) ∧ (∀ i : Nat, i < 96 → tA t' 9 i = tA t 20 i) ∧ (∀ i : Nat, i < 3 → tA t' 11 i = tA t 22 i) ∧ (∀ i : Nat, i < 14 → tT t' 10 i = tT t 21 i)))) := by
  refine CI_ent (d := d + 1) (Bk := bX8_back) (nL := 1) rfl rfl rfl (Nat.le_of_ble_eq_true rfl) ?_
  show Rn _ 1000000 0 [some (.ref 0)] [] _ _
  have fr : Fr [(1, 10), (1, 11), (1, 12), (1, 13), (1, 14), (2, 100), (3, 100), (4, 100), (5, 100), (6, 100), (7, 100), (8, 100), (9, 100), (11, 100), (10, 101)] t t := Fr.rf _ _
  have hn0 := (ok.f fe_1_10).1
  have hn1 := (ok.f fe_1_10).2
  refine w_step rfl ?_
  refine w_aload rfl ?_
  refine w_getI (g_0_9 _) fe_0_9 ok (fun z1 hz1 hl1 hh1 => ?_)
  refine w_ine (by omega) (fun h2 => ?_) (fun h2 => ?_)
  · skip
    refine w_step rfl ?_
    refine w_aload rfl ?_
    refine w_getR (g_0_0 _) ?_
    refine w_aload rfl ?_
    refine w_getR (g_0_1 _) ?_
    refine w_callV1V (oj_1 _).choose_spec rfl (c_X4_become_1_12 ok) ?_
    rintro t3 ⟨ok3, fq3, hp3_0, hp3_1, hp3_2, hp3_3, hp3_4, hp3_5, hp3_6, hp3_7, hp3_8, hp3_9, hp3_10, hp3_11, hp3_12, hp3_13, hp3_14⟩
    have fr3 := fr.then fq3 (by simp)
    have e0 := hp3_0
    have e1 := hp3_1
    have e2 := hp3_2
    have e3 := hp3_3
    have e4 := hp3_4
    have e5 := hp3_5
    have e6 := hp3_6
    have e7 := hp3_7
    have e8 := hp3_8
    have e9 := hp3_9
    have e10 := hp3_10
    have e11 := hp3_11
    have e12 := hp3_12
    have e13 := hp3_13
    have e14 := hp3_14
    refine w_aload rfl ?_
    refine w_getR (g_0_0 _) ?_
    refine w_getI (g_1_10 _) fe_1_10 ok3 (fun z4 hz4 hl4 hh4 => ?_)
    refine w_retI rfl ?_
    exact ⟨ok3, fr3, (by first | (exact Or.inl ⟨by omega, by first | omega | (subst_vars; rfl), rfl⟩) | (exact Or.inr (⟨by omega, by first | omega | (subst_vars; rfl), e0, e1, e2, e3, e4, e5, e6, e7, e8, e9, e10, e11, e12, e13, e14⟩)))⟩
  refine w_push kc_m1000000002 ?_
  refine w_retI rfl ?_
  exact ⟨ok, fr, (by first | (exact Or.inl ⟨by omega, by first | omega | (subst_vars; rfl), rfl⟩) | (exact Or.inr (⟨by omega, by first | omega | (subst_vars; rfl), e0, e1, e2, e3, e4, e5, e6, e7, e8, e9, e10, e11, e12, e13, e14⟩)))⟩
set_option maxRecDepth 100000 in
set_option maxHeartbeats 4000000 in
theorem c_X8_count {d : Nat} {t : TS} {w : Int}  (ok : OK t) (q0 : -2147483648 ≤ w) (q1 : w ≤ 2147483647) : CI (EX FU (d + 3)) 118 [.ref 0, .int (jI w)] (mk t) (fun z t' => t = t' ∧ (-2147483648 ≤ z) ∧ (z ≤ 2147483647)) := by
  refine CI_ent (d := d + 2) (Bk := bX8_count) (nL := 2) rfl rfl rfl (Nat.le_of_ble_eq_true rfl) ?_
  show Rn _ 1000000 0 [some (.ref 0), some (.int (jI w))] [] _ _
  have hn0 := (ok.f fe_1_10).1
  have hn1 := (ok.f fe_1_10).2
  refine w_step rfl ?_
  refine w_iload rfl ?_
  have hs1 : w = 0 ∨ w = 1 ∨ w = 2 ∨ w = 3 ∨ w = 4 ∨ w = 5 ∨ w = 6 ∨ w = 7 ∨ (w < 0 ∨ 0 + 8 ≤ w) := (by omega)
  rcases hs1 with hs1 | hs1 | hs1 | hs1 | hs1 | hs1 | hs1 | hs1 | hs1
  · refine w_sw (n := 1) (tsw_at hs1 (by decide)) ?_
    refine w_step rfl ?_
    refine w_aload rfl ?_
    refine w_getR (g_0_0 _) ?_
    refine w_getI (g_1_10 _) fe_1_10 ok (fun z2 hz2 hl2 hh2 => ?_)
    refine w_retI rfl ?_
    exact ⟨rfl, (by omega), (by omega)⟩
  · refine w_sw (n := 2) (tsw_at hs1 (by decide)) ?_
    refine w_step rfl ?_
    refine w_aload rfl ?_
    refine w_getR (g_0_0 _) ?_
    refine w_getI (g_1_13 _) fe_1_13 ok (fun z3 hz3 hl3 hh3 => ?_)
    refine w_retI rfl ?_
    exact ⟨rfl, (by omega), (by omega)⟩
  · refine w_sw (n := 3) (tsw_at hs1 (by decide)) ?_
    refine w_step rfl ?_
    refine w_aload rfl ?_
    refine w_getR (g_0_0 _) ?_
    refine w_getI (g_1_12 _) fe_1_12 ok (fun z4 hz4 hl4 hh4 => ?_)
    refine w_retI rfl ?_
    exact ⟨rfl, (by omega), (by omega)⟩
  · refine w_sw (n := 4) (tsw_at hs1 (by decide)) ?_
    refine w_step rfl ?_
    refine w_aload rfl ?_
    refine w_getR (g_0_0 _) ?_
    refine w_getI (g_1_10 _) fe_1_10 ok (fun z5 hz5 hl5 hh5 => ?_)
    refine w_aload rfl ?_
    refine w_getR (g_0_0 _) ?_
    refine w_callV0I (oj_1 _).choose_spec rfl (c_X4_laidStones isT1 ok) ?_
    rintro z6 t6 ⟨rfl, hp6_0, hp6_1⟩
    refine w_subW (fun z7 hz7 hl7 hh7 => ?_)
    refine w_retI rfl ?_
    exact ⟨rfl, (by omega), (by omega)⟩
  · refine w_sw (n := 5) (tsw_at hs1 (by decide)) ?_
    refine w_step rfl ?_
    refine w_aload rfl ?_
    refine w_getR (g_0_0 _) ?_
    refine w_getI (g_1_11 _) fe_1_11 ok (fun z8 hz8 hl8 hh8 => ?_)
    refine w_retI rfl ?_
    exact ⟨rfl, (by omega), (by omega)⟩
  · refine w_sw (n := 6) (tsw_at hs1 (by decide)) ?_
    refine w_step rfl ?_
    refine w_aload rfl ?_
    refine w_getI (g_0_8 _) fe_0_8 ok (fun z9 hz9 hl9 hh9 => ?_)
    refine w_retI rfl ?_
    exact ⟨rfl, (by omega), (by omega)⟩
  · refine w_sw (n := 7) (tsw_at hs1 (by decide)) ?_
    refine w_step rfl ?_
    refine w_aload rfl ?_
    refine w_getR (g_0_3 _) ?_
    refine w_getI (g_37_1 _) fe_37_1 ok (fun z10 hz10 hl10 hh10 => ?_)
    refine w_retI rfl ?_
    exact ⟨rfl, (by omega), (by omega)⟩
  · refine w_sw (n := 8) (tsw_at hs1 (by decide)) ?_
    refine w_step rfl ?_
    refine w_aload rfl ?_
    refine w_getR (g_0_0 _) ?_
    refine w_getI (g_1_14 _) fe_1_14 ok (fun z11 hz11 hl11 hh11 => ?_)
    refine w_retI rfl ?_
    exact ⟨rfl, (by omega), (by omega)⟩
  · refine w_sw (n := 9) (tsw_df (m := 8) rfl (by omega) (by omega)) ?_
    refine w_step rfl ?_
    refine w_push kc_m1000000001 ?_
    refine w_retI rfl ?_
    exact ⟨rfl, (by omega), (by omega)⟩
