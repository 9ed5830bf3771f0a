set_option maxRecDepth 100000 in
set_option maxHeartbeats 4000000 in
theorem c_X8_lay {d : Nat} {t : TS} {s g k : Int}  (ok : OK t) (q0 : -2147483648 ≤ s) (q1 : s ≤ 2147483647) (q2 : -2147483648 ≤ g) (q3 : g ≤ 2147483647) (q4 : -2147483648 ≤ k) (q5 : k ≤ 2147483647) : CI (EX FU (d + 3)) 110 [.ref 0, .int (jI s), .int (jI g), .int (jI k)] (mk t) (fun z t' => OK t' ∧ Fr [((53 + 3 * s.toNat), 1), ((53 + 3 * s.toNat), 2), ((53 + 3 * s.toNat), 3), ((53 + 3 * s.toNat), 4), ((53 + 3 * s.toNat), 5), ((53 + 3 * s.toNat) + 1, 1), ((53 + 3 * s.toNat) + 1, 2), ((53 + 3 * s.toNat) + 1 + 1, 100)] t t' ∧ (((¬ (0 ≤ s ∧ s ≤ 4 ∧ 0 ≤ g ∧ g ≤ 3) ∨ (g = 1 ∧ ¬ (0 ≤ k ∧ k ≤ tI t 1 10 - 1)) ∨ (g = 2 ∧ ¬ (0 ≤ k ∧ k ≤ 3))) ∧ z = (-1000000001) ∧ t' = t) ∨ ((0 ≤ s ∧ s ≤ 4) ∧ (g = 2) ∧ (0 ≤ k ∧ k ≤ 3) ∧ (tI t (45 + 2 * k.toNat) 1 = -1) ∧ z = (-1000000011) ∧ t' = t) ∨ ((0 ≤ s ∧ s ≤ 4) ∧ (g = 0) ∧ z = tI t (53 + 3 * s.toNat) 1 ∧ (tI t' (53 + 3 * s.toNat) 1 = 0)) ∨ ((0 ≤ s ∧ s ≤ 4) ∧ (g = 1) ∧ (0 ≤ k ∧ k ≤ tI t 1 10 - 1) ∧ z = tI t (53 + 3 * s.toNat) 1 ∧ (tI t' (53 + 3 * s.toNat) 1 = 1) ∧ (tI t' (53 + 3 * s.toNat) 2 = tA t 2 k.toNat) ∧ (tI t' (53 + 3 * s.toNat) 3 = tA t 3 k.toNat) ∧ (tI t' (53 + 3 * s.toNat) 4 = tA t 4 k.toNat)) ∨ ((0 ≤ s ∧ s ≤ 4) ∧ (g = 2) ∧ (0 ≤ k ∧ k ≤ 3) ∧ (¬ tI t (45 + 2 * k.toNat) 1 = -1) ∧ z = tI t (53 + 3 * s.toNat) 1 ∧ (tI t' (53 + 3 * s.toNat) 1 = 2) ∧ (tI t' ((53 + 3 * s.toNat) + 1) 2 = tI t (45 + 2 * k.toNat) 2) ∧ (∀ i : Nat, i < 24 → tA t' ((53 + 3 * s.toNat) + 1 + 1) i = tA t ((45 + 2 * k.toNat) + 1) i)) ∨ ((0 ≤ s ∧ s ≤ 4) ∧ (g = 3) ∧ z = tI t (53 + 3 * s.toNat) 1 ∧ (tI t' (53 + 3 * s.toNat) 1 = 3) ∧ (tI t' (53 + 3 * s.toNat) 5 = k)))) := by
  refine CI_ent (d := d + 2) (Bk := bX8_lay) (nL := 6) rfl rfl rfl (Nat.le_of_ble_eq_true rfl) ?_
  show Rn _ 1000000 0 [some (.ref 0), some (.int (jI s)), some (.int (jI g)), some (.int (jI k)), none, none] [] _ _
  have fr : Fr [((53 + 3 * s.toNat), 1), ((53 + 3 * s.toNat), 2), ((53 + 3 * s.toNat), 3), ((53 + 3 * s.toNat), 4), ((53 + 3 * s.toNat), 5), ((53 + 3 * s.toNat) + 1, 1), ((53 + 3 * s.toNat) + 1, 2), ((53 + 3 * s.toNat) + 1 + 1, 100)] t t := Fr.rf _ _
  have hn0 := (ok.f fe_1_10).1
  have hn1 := (ok.f fe_1_10).2
  refine w_step rfl ?_
  refine w_iload rfl ?_
  refine w_callS1I rfl (c_X8_isSlot ok (by omega) (by omega)) ?_
  rintro z1 t1 ⟨rfl, hp1_0⟩
  rcases hp1_0 with ⟨rfl, hp1_0⟩ | ⟨rfl, hp1_0⟩
  · skip
    refine w_ieq (by omega) (fun _ => ?_) (fun h => absurd (by omega) h)
    refine w_step rfl ?_
    refine w_push kc_m1000000001 ?_
    refine w_retI rfl ?_
    exact ⟨ok, fr, (by (exact Or.inl ⟨by omega, by first | omega | (subst_vars; rfl), rfl⟩))⟩
  refine w_ieq (by omega) (fun h => absurd h (by omega)) (fun _ => ?_)
  refine w_iload rfl ?_
  refine w_push kc_0 ?_
  refine w_push kc_3 ?_
  refine w_callS3I rfl (c_X8_within ok (by omega) (by omega) (by omega) (by omega) (by omega) (by omega)) ?_
  rintro z2 t2 ⟨rfl, hp2_0⟩
  rcases hp2_0 with ⟨rfl, hp2_0⟩ | ⟨rfl, hp2_0⟩
  · skip
    refine w_ine (by omega) (fun h => absurd h (by omega)) (fun _ => ?_)
    refine w_goto ?_
    refine w_step rfl ?_
    refine w_push kc_m1000000001 ?_
    refine w_retI rfl ?_
    exact ⟨ok, fr, (by (exact Or.inl ⟨by omega, by first | omega | (subst_vars; rfl), rfl⟩))⟩
  refine w_ine (by omega) (fun _ => ?_) (fun h => absurd (by omega) h)
  refine w_step rfl ?_
  refine w_iload rfl ?_
  refine w_push kc_1 ?_
  refine w_cne (by omega) (fun h3 => ?_) (fun h3 => ?_)
  · skip
    refine w_step rfl ?_
    refine w_iload rfl ?_
    refine w_push kc_2 ?_
    refine w_cne (by omega) (fun h4 => ?_) (fun h4 => ?_)
    · skip
      refine w_step rfl ?_
      refine w_iload rfl ?_
      refine w_push kc_2 ?_
      refine w_cne (by omega) (fun _ => ?_) (fun h => absurd (by omega) h)
      refine w_step rfl ?_
      refine w_aload rfl ?_
      refine w_getR (g_0_6 _) ?_
      refine w_iload rfl ?_
      refine w_slots (i := (s).toNat) (by omega) (by omega) ?_
      refine w_astore (lv' := [some (.ref 0), some (.int (jI s)), some (.int (jI g)), some (.int (jI k)), some (.ref (53 + 3 * (s).toNat)), none]) rfl ?_
      refine w_aload rfl ?_
      refine w_getI (gL_1 (isL_s (i := (s).toNat) (by omega)) _) (feL_1 (isL_s (i := (s).toNat) (by omega))) ok (fun z5 hz5 hl5 hh5 => ?_)
      refine w_istore (lv' := [some (.ref 0), some (.int (jI s)), some (.int (jI g)), some (.int (jI k)), some (.ref (53 + 3 * (s).toNat)), some (.int (jI z5))]) rfl ?_
      refine w_aload rfl ?_
      refine w_iload rfl ?_
      refine w_putI (pL_1 (isL_s (i := (s).toNat) (by omega)) _) (feL_1 (isL_s (i := (s).toNat) (by omega))) ok (by omega) (fun t6 ht6 ok6 => ?_)
      have fr6 := fr.uI ht6 (by simp)
      have e1 := ht6
      have e1b : ∀ c i, tA t6 c i = tA t c i := by intro c i; rw [e1, tA_uI]
      refine w_iload rfl ?_
      refine w_push kc_1 ?_
      refine w_cne (by omega) (fun _ => ?_) (fun h => absurd (by omega) h)
      refine w_step rfl ?_
      refine w_iload rfl ?_
      refine w_push kc_2 ?_
      refine w_cne (by omega) (fun _ => ?_) (fun h => absurd (by omega) h)
      refine w_step rfl ?_
      refine w_iload rfl ?_
      refine w_push kc_3 ?_
      refine w_cne (by omega) (fun h7 => ?_) (fun h7 => ?_)
      · skip
        refine w_step rfl ?_
        refine w_iload rfl ?_
        refine w_retI rfl ?_
        exact ⟨ok6, fr6, (by  first | (exact Or.inr (Or.inr (Or.inl ⟨by omega, by omega, by first | omega | (subst_vars; rfl), by rw [e1, tI_uI, if_pos ⟨rfl, rfl⟩]; omega⟩))) | (exact Or.inr (Or.inr (Or.inr (Or.inr (Or.inr (⟨by omega, by omega, by first | omega | (subst_vars; rfl), by rw [e7, tI_uI, if_neg (by simp), e1, tI_uI, if_pos ⟨rfl, rfl⟩]; omega, by rw [e7, tI_uI, if_pos ⟨rfl, rfl⟩]⟩)))))))⟩
      refine w_aload rfl ?_
      refine w_iload rfl ?_
      refine w_putI (pL_5 (isL_s (i := (s).toNat) (by omega)) _) (feL_5 (isL_s (i := (s).toNat) (by omega))) ok6 (by omega) (fun t8 ht8 ok8 => ?_)
      have fr8 := fr6.uI ht8 (by simp)
      have e7 := ht8
      refine w_goto ?_
      refine w_step rfl ?_
      refine w_iload rfl ?_
      refine w_retI rfl ?_
      exact ⟨ok8, fr8, (by  first | (exact Or.inr (Or.inr (Or.inl ⟨by omega, by omega, by first | omega | (subst_vars; rfl), by rw [e1, tI_uI, if_pos ⟨rfl, rfl⟩]; omega⟩))) | (exact Or.inr (Or.inr (Or.inr (Or.inr (Or.inr (⟨by omega, by omega, by first | omega | (subst_vars; rfl), by rw [e7, tI_uI, if_neg (by simp), e1, tI_uI, if_pos ⟨rfl, rfl⟩]; omega, by rw [e7, tI_uI, if_pos ⟨rfl, rfl⟩]⟩)))))))⟩
    refine w_iload rfl ?_
    refine w_callS1I rfl (c_X8_isSheet ok (by omega) (by omega)) ?_
    rintro z9 t9 ⟨rfl, hp9_0⟩
    rcases hp9_0 with ⟨rfl, hp9_0⟩ | ⟨rfl, hp9_0⟩
    · skip
      refine w_ine (by omega) (fun h => absurd h (by omega)) (fun _ => ?_)
      refine w_goto ?_
      refine w_step rfl ?_
      refine w_push kc_m1000000001 ?_
      refine w_retI rfl ?_
      exact ⟨ok, fr, (by (exact Or.inl ⟨by omega, by first | omega | (subst_vars; rfl), rfl⟩))⟩
    refine w_ine (by omega) (fun _ => ?_) (fun h => absurd (by omega) h)
    refine w_step rfl ?_
    refine w_iload rfl ?_
    refine w_push kc_2 ?_
    refine w_cne (by omega) (fun h => absurd h (by omega)) (fun _ => ?_)
    refine w_aload rfl ?_
    refine w_getR (g_0_5 _) ?_
    refine w_iload rfl ?_
    refine w_sheets (i := (k).toNat) (by omega) (by omega) ?_
    refine w_callV0I (ojH (isH_s (i := (k).toNat) (by omega)) _).choose_spec rfl (c_X2_isMissing (isH_s (i := (k).toNat) (by omega)) ok) ?_
    rintro z10 t10 ⟨rfl, hp10_0⟩
    rcases hp10_0 with ⟨rfl, hp10_0⟩ | ⟨rfl, hp10_0⟩
    · skip
      refine w_ieq (by omega) (fun _ => ?_) (fun h => absurd (by omega) h)
      refine w_step rfl ?_
      refine w_aload rfl ?_
      refine w_getR (g_0_6 _) ?_
      refine w_iload rfl ?_
      refine w_slots (i := (s).toNat) (by omega) (by omega) ?_
      refine w_astore (lv' := [some (.ref 0), some (.int (jI s)), some (.int (jI g)), some (.int (jI k)), some (.ref (53 + 3 * (s).toNat)), none]) rfl ?_
      refine w_aload rfl ?_
      refine w_getI (gL_1 (isL_s (i := (s).toNat) (by omega)) _) (feL_1 (isL_s (i := (s).toNat) (by omega))) ok (fun z11 hz11 hl11 hh11 => ?_)
      refine w_istore (lv' := [some (.ref 0), some (.int (jI s)), some (.int (jI g)), some (.int (jI k)), some (.ref (53 + 3 * (s).toNat)), some (.int (jI z11))]) rfl ?_
      refine w_aload rfl ?_
      refine w_iload rfl ?_
      refine w_putI (pL_1 (isL_s (i := (s).toNat) (by omega)) _) (feL_1 (isL_s (i := (s).toNat) (by omega))) ok (by omega) (fun t12 ht12 ok12 => ?_)
      have fr12 := fr.uI ht12 (by simp)
      have e1 := ht12
      have e1b : ∀ c i, tA t12 c i = tA t c i := by intro c i; rw [e1, tA_uI]
      refine w_iload rfl ?_
      refine w_push kc_1 ?_
      refine w_cne (by omega) (fun _ => ?_) (fun h => absurd (by omega) h)
      refine w_step rfl ?_
      refine w_iload rfl ?_
      refine w_push kc_2 ?_
      refine w_cne (by omega) (fun h => absurd h (by omega)) (fun _ => ?_)
      refine w_aload rfl ?_
      refine w_getR (gL_0 (isL_s (i := (s).toNat) (by omega)) _) ?_
      refine w_aload rfl ?_
      refine w_getR (g_0_5 _) ?_
      refine w_iload rfl ?_
      refine w_sheets (i := (k).toNat) (by omega) (by omega) ?_
      refine w_callV1V (ojH (isH_l (isL_s (i := (s).toNat) (by omega))) _).choose_spec rfl (c_X2_becomeLike (isH_l (isL_s (i := (s).toNat) (by omega))) (isH_s (i := (k).toNat) (by omega)) ok12 (by omega) (by omega)) ?_
      rintro t13 ⟨ok13, fq13, hp13_0, hp13_1⟩
      have fr13 := fr12.then fq13 (by simp)
      have fB := fq13
      have e5 := hp13_0
      have e6 := hp13_1
      refine w_goto ?_
      refine w_step rfl ?_
      refine w_iload rfl ?_
      refine w_retI rfl ?_
      exact ⟨ok13, fr13, (by (exact Or.inr (Or.inr (Or.inr (Or.inr (Or.inl ⟨by omega, by omega, by omega, by omega, by first | omega | (subst_vars; rfl), by rw [fB.1 _ _ (by simp), e1, tI_uI, if_pos ⟨rfl, rfl⟩]; omega, by rw [e5, e1, tI_uI, if_neg (by omega)], by intro i hi; rw [e6 i hi, e1b]⟩))))))⟩
    refine w_ieq (by omega) (fun h => absurd h (by omega)) (fun _ => ?_)
    refine w_push kc_m1000000011 ?_
    refine w_retI rfl ?_
    exact ⟨ok, fr, (by (exact Or.inr (Or.inl ⟨by omega, by omega, by omega, by omega, by first | omega | (subst_vars; rfl), rfl⟩)))⟩
  refine w_aload rfl ?_
  refine w_iload rfl ?_
  refine w_callV1I (oj_0 _).choose_spec rfl (c_X8_isStone ok (by omega) (by omega)) ?_
  rintro z14 t14 ⟨rfl, hp14_0⟩
  rcases hp14_0 with ⟨rfl, hp14_0⟩ | ⟨rfl, hp14_0⟩
  · skip
    refine w_ieq (by omega) (fun _ => ?_) (fun h => absurd (by omega) h)
    refine w_step rfl ?_
    refine w_push kc_m1000000001 ?_
    refine w_retI rfl ?_
    exact ⟨ok, fr, (by (exact Or.inl ⟨by omega, by first | omega | (subst_vars; rfl), rfl⟩))⟩
  refine w_ieq (by omega) (fun h => absurd h (by omega)) (fun _ => ?_)
  refine w_goto ?_
  refine w_step rfl ?_
  refine w_iload rfl ?_
  refine w_push kc_2 ?_
  refine w_cne (by omega) (fun _ => ?_) (fun h => absurd (by omega) h)
  refine w_step rfl ?_
  refine w_iload rfl ?_
  refine w_push kc_2 ?_
  refine w_cne (by omega) (fun _ => ?_) (fun h => absurd (by omega) h)
  refine w_step rfl ?_
  refine w_aload rfl ?_
  refine w_getR (g_0_6 _) ?_
  refine w_iload rfl ?_
  refine w_slots (i := (s).toNat) (by omega) (by omega) ?_
  refine w_astore (lv' := [some (.ref 0), some (.int (jI s)), some (.int (jI g)), some (.int (jI k)), some (.ref (53 + 3 * (s).toNat)), none]) rfl ?_
  refine w_aload rfl ?_
  refine w_getI (gL_1 (isL_s (i := (s).toNat) (by omega)) _) (feL_1 (isL_s (i := (s).toNat) (by omega))) ok (fun z15 hz15 hl15 hh15 => ?_)
  refine w_istore (lv' := [some (.ref 0), some (.int (jI s)), some (.int (jI g)), some (.int (jI k)), some (.ref (53 + 3 * (s).toNat)), some (.int (jI z15))]) rfl ?_
  refine w_aload rfl ?_
  refine w_iload rfl ?_
  refine w_putI (pL_1 (isL_s (i := (s).toNat) (by omega)) _) (feL_1 (isL_s (i := (s).toNat) (by omega))) ok (by omega) (fun t16 ht16 ok16 => ?_)
  have fr16 := fr.uI ht16 (by simp)
  have e1 := ht16
  have e1b : ∀ c i, tA t16 c i = tA t c i := by intro c i; rw [e1, tA_uI]
  refine w_iload rfl ?_
  refine w_push kc_1 ?_
  refine w_cne (by omega) (fun h => absurd h (by omega)) (fun _ => ?_)
  refine w_aload rfl ?_
  refine w_aload rfl ?_
  refine w_getR (g_0_0 _) ?_
  refine w_getR (g_1_0 _) ?_
  refine w_iload rfl ?_
  refine w_iald (i := (k).toNat) (ai_2 _) (by omega) (by omega) (ae_2 _) ok16 (fun z17 hz17 hl17 hh17 => ?_)
  refine w_aload rfl ?_
  refine w_getR (g_0_0 _) ?_
  refine w_getR (g_1_1 _) ?_
  refine w_iload rfl ?_
  refine w_iald (i := (k).toNat) (ai_3 _) (by omega) (by omega) (ae_3 _) ok16 (fun z18 hz18 hl18 hh18 => ?_)
  refine w_aload rfl ?_
  refine w_getR (g_0_0 _) ?_
  refine w_getR (g_1_2 _) ?_
  refine w_iload rfl ?_
  refine w_iald (i := (k).toNat) (ai_4 _) (by omega) (by omega) (ae_4 _) ok16 (fun z19 hz19 hl19 hh19 => ?_)
  refine w_callV3V (ojL (isL_s (i := (s).toNat) (by omega)) _).choose_spec rfl (c_X3_takeStone (isL_s (i := (s).toNat) (by omega)) ok16 (by omega) (by omega) (by omega) (by omega) (by omega) (by omega)) ?_
  rintro t20 ⟨ok20, fq20, hp20_0, hp20_1, hp20_2⟩
  have fr20 := fr16.then fq20 (by simp)
  have fA := fq20
  have e2 := hp20_0
  have e3 := hp20_1
  have e4 := hp20_2
  refine w_goto ?_
  refine w_step rfl ?_
  refine w_iload rfl ?_
  refine w_retI rfl ?_
  exact ⟨ok20, fr20, (by (exact Or.inr (Or.inr (Or.inr (Or.inl ⟨by omega, by omega, by omega, by first | omega | (subst_vars; rfl), by rw [fA.1 _ _ (by simp), e1, tI_uI, if_pos ⟨rfl, rfl⟩]; omega, by rw [e2]; first | (rw [← e1b]; assumption) | (subst_vars; rfl), by rw [e3]; first | (rw [← e1b]; assumption) | (subst_vars; rfl), by rw [e4]; first | (rw [← e1b]; assumption) | (subst_vars; rfl)⟩)))))⟩
