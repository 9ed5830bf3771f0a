set_option maxRecDepth 100000 in
set_option maxHeartbeats 4000000 in
theorem c_X1_readText {d : Nat} {t : TS}  (ok : OK t) (q0 : (tD t).length ≤ 90000) : CR (EX FU (d + 85)) 5 [.ref 39] (mk t) (fun z t' => OK t' ∧ FrD [(39, 0), (39, 4), (39, 5), (39, 7), (39, 8), (39, 9), (39, 10), (40, 100), (41, 100), (39, 6)] t t' ∧ (tD t').length ≤ (tD t).length + 1 ∧ (∀ r, z = some r → ∃ j, j < (tD t').length ∧ r = 92 + 4 * j)) := by
  refine CR_ent (d := d + 84) (Bk := bX1_readText) (nL := 2) rfl rfl rfl (Nat.le_of_ble_eq_true rfl) ?_
  show Rn _ 1000000 0 [some (.ref 39), none] [] _ _
  have fr : Fr [(39, 0), (39, 4), (39, 5), (39, 7), (39, 8), (39, 9), (39, 10), (40, 100), (41, 100), (39, 6)] t t := Fr.rf _ _
  have r37 := ok.f fe_37_1
  refine w_step rfl ?_
  refine w_aload rfl ?_
  refine w_callV0V (oj_39 _).choose_spec rfl (c_X1_begin ok) ?_
  rintro t1 ⟨ok1, fq1, hp1_0, hp1_1, hp1_2, hp1_3, hp1_4, hp1_5⟩
  have fr1 := fr.then fq1 (by simp)
  have kf1_37_1 : tI t1 37 1 = tI t 37 1 := fq1.1 37 1 (by simp)
  have r8 := ok1.f fe_39_8
  refine w_aload rfl ?_
  refine w_callV0I (oj_39 _).choose_spec rfl (c_X1_keyAtHand ok1 (by omega)) ?_
  rintro z2 t2 ⟨rfl, hp2_0, hp2_1, hp2_2⟩
  refine w_istore (lv' := [some (.ref 39), some (.int (jI z2))]) rfl ?_
  refine w_iload rfl ?_
  refine w_push kc_m1 ?_
  refine w_cne (by omega) (fun h3 => ?_) (fun h3 => ?_)
  · skip
    refine w_step rfl ?_
    refine w_aload rfl ?_
    refine w_iload rfl ?_
    refine w_ine (by omega) (fun h4 => ?_) (fun h4 => ?_)
    · skip
      refine w_step rfl ?_
      refine w_iload rfl ?_
      refine w_push kc_1 ?_
      refine w_cne (by omega) (fun h5 => ?_) (fun h5 => ?_)
      · skip
        refine w_step rfl ?_
        refine w_pushV ?_
        refine w_goto ?_
        refine w_step rfl ?_
        refine w_putN ok1 (fun t6 ht6 ok6 => ?_)
        have kf6_39_0 : tI t6 39 0 = tI t1 39 0 := by rw [ht6]; rfl
        have kf6_39_4 : tI t6 39 4 = tI t1 39 4 := by rw [ht6]; rfl
        have kf6_39_5 : tI t6 39 5 = tI t1 39 5 := by rw [ht6]; rfl
        have kf6_39_7 : tI t6 39 7 = tI t1 39 7 := by rw [ht6]; rfl
        have kf6_39_8 : tI t6 39 8 = tI t1 39 8 := by rw [ht6]; rfl
        have kf6_39_9 : tI t6 39 9 = tI t1 39 9 := by rw [ht6]; rfl
        have kf6_37_1 : tI t6 37 1 = tI t1 37 1 := by rw [ht6]; rfl
        have fr6 := fr1.uN ht6 (by simp)
        have nm : tN t6 = 1000006 ∨ tN t6 = 1000007 ∨ tN t6 = 1000008 := by
          rw [ht6]
          first | exact Or.inl rfl | exact Or.inr (Or.inl rfl) | exact Or.inr (Or.inr rfl)
        refine w_aload rfl ?_
        refine w_callV0V (oj_39 _).choose_spec rfl (c_X1_step ok6 (by omega)) ?_
        rintro t7 ⟨ok7, fq7, hp7_0, hp7_1, hp7_2, hp7_3, hp7_4⟩
        have fr7 := fr6.then fq7 (by simp)
        have kf7_39_0 : tI t7 39 0 = tI t6 39 0 := fq7.1 39 0 (by simp)
        have kf7_39_4 : tI t7 39 4 = tI t6 39 4 := fq7.1 39 4 (by simp)
        have kf7_39_5 : tI t7 39 5 = tI t6 39 5 := fq7.1 39 5 (by simp)
        have kf7_37_1 : tI t7 37 1 = tI t6 37 1 := fq7.1 37 1 (by simp)
        have lt := hp7_4
        have nm : tN t7 = 1000006 ∨ tN t7 = 1000007 ∨ tN t7 = 1000008 := by rw [fq7.2.2.2.1 (by simp)]; exact nm
        refine w_aload rfl ?_
        refine w_push kc_0 ?_
        refine w_push kc_0 ?_
        refine w_push kc_0 ?_
        refine w_callV3V (oj_39 _).choose_spec rfl (c_X1_readLevel0 ok7 (by omega) (by omega) (by omega) (by omega) (by omega) lt nm rfl rfl rfl) ?_
        rintro t8 ⟨ok8, fq8, hp8_0, hp8_1, hp8_2, hp8_3, hp8_4, hp8_5, hp8_6⟩
        have fr8 := fr7.then fq8 (by simp)
        have kf8_37_1 : tI t8 37 1 = tI t7 37 1 := fq8.1 37 1 (by simp)
        refine w_aload rfl ?_
        refine w_getI (g_39_0 _) fe_39_0 ok8 (fun z9 hz9 hl9 hh9 => ?_)
        refine w_push kc_m1 ?_
        refine w_cne (by omega) (fun h10 => ?_) (fun h10 => ?_)
        · skip
          refine w_step rfl ?_
          refine w_aload rfl ?_
          refine w_getI (g_39_0 _) fe_39_0 ok8 (fun z11 hz11 hl11 hh11 => ?_)
          refine w_push kc_m1 ?_
          refine w_ceq (by omega) (fun h12 => ?_) (fun h12 => ?_)
          · skip
            refine w_step rfl ?_
            have hl6 := fr8.len
            exact rd_blk6 (d := d + 83) ok8 (by omega) (by omega) (by omega) (fun x hx => ⟨ok8.app hx, fr8.toD.uD _, by show (tD t8 ++ [x]).length ≤ _; rw [List.length_append]; simp only [List.length_singleton]; omega, fun r h => ⟨(tD t8).length, by show _ < (tD t8 ++ [x]).length; rw [List.length_append]; simp, (Option.some.inj h).symm⟩⟩)
          refine w_pushV ?_
          refine w_retN rfl ?_
          exact ⟨ok8, fr8.toD, (by have hl := fr8.len; omega), (fun r h => by cases h)⟩
        refine w_aload rfl ?_
        refine w_getI (g_39_7 _) fe_39_7 ok8 (fun z13 hz13 hl13 hh13 => ?_)
        refine w_ieq (by omega) (fun h14 => ?_) (fun h14 => ?_)
        · skip
          refine w_step rfl ?_
          refine w_aload rfl ?_
          refine w_getI (g_39_0 _) fe_39_0 ok8 (fun z15 hz15 hl15 hh15 => ?_)
          refine w_push kc_m1 ?_
          refine w_ceq (by omega) (fun h16 => ?_) (fun h16 => ?_)
          · skip
            refine w_step rfl ?_
            have hl6 := fr8.len
            exact rd_blk6 (d := d + 83) ok8 (by omega) (by omega) (by omega) (fun x hx => ⟨ok8.app hx, fr8.toD.uD _, by show (tD t8 ++ [x]).length ≤ _; rw [List.length_append]; simp only [List.length_singleton]; omega, fun r h => ⟨(tD t8).length, by show _ < (tD t8 ++ [x]).length; rw [List.length_append]; simp, (Option.some.inj h).symm⟩⟩)
          refine w_pushV ?_
          refine w_retN rfl ?_
          exact ⟨ok8, fr8.toD, (by have hl := fr8.len; omega), (fun r h => by cases h)⟩
        refine w_aload rfl ?_
        refine w_aload rfl ?_
        refine w_getI (g_39_8 _) fe_39_8 ok8 (fun z17 hz17 hl17 hh17 => ?_)
        refine w_putI (p_39_0 _) fe_39_0 ok8 (by omega) (fun t18 ht18 ok18 => ?_)
        have kf18_39_0 : tI t18 39 0 = z17 := by rw [ht18, tI_uI, if_pos ⟨rfl, rfl⟩]
        have kf18_39_4 : tI t18 39 4 = tI t8 39 4 := by rw [ht18, tI_uI, if_neg (by decide)]
        have kf18_39_5 : tI t18 39 5 = tI t8 39 5 := by rw [ht18, tI_uI, if_neg (by decide)]
        have kf18_39_7 : tI t18 39 7 = tI t8 39 7 := by rw [ht18, tI_uI, if_neg (by decide)]
        have kf18_39_8 : tI t18 39 8 = tI t8 39 8 := by rw [ht18, tI_uI, if_neg (by decide)]
        have kf18_39_9 : tI t18 39 9 = tI t8 39 9 := by rw [ht18, tI_uI, if_neg (by decide)]
        have kf18_37_1 : tI t18 37 1 = tI t8 37 1 := by rw [ht18, tI_uI, if_neg (by decide)]
        have fr18 := fr8.uI ht18 (by simp)
        refine w_goto ?_
        refine w_step rfl ?_
        refine w_aload rfl ?_
        refine w_getI (g_39_0 _) fe_39_0 ok18 (fun z19 hz19 hl19 hh19 => ?_)
        refine w_push kc_m1 ?_
        refine w_ceq (by omega) (fun h20 => ?_) (fun h20 => ?_)
        · skip
          refine w_step rfl ?_
          have hl6 := fr18.len
          exact rd_blk6 (d := d + 83) ok18 (by omega) (by omega) (by omega) (fun x hx => ⟨ok18.app hx, fr18.toD.uD _, by show (tD t18 ++ [x]).length ≤ _; rw [List.length_append]; simp only [List.length_singleton]; omega, fun r h => ⟨(tD t18).length, by show _ < (tD t18 ++ [x]).length; rw [List.length_append]; simp, (Option.some.inj h).symm⟩⟩)
        refine w_pushV ?_
        refine w_retN rfl ?_
        exact ⟨ok18, fr18.toD, (by have hl := fr18.len; omega), (fun r h => by cases h)⟩
      refine w_pushV ?_
      refine w_goto ?_
      refine w_step rfl ?_
      refine w_putN ok1 (fun t21 ht21 ok21 => ?_)
      have kf21_39_0 : tI t21 39 0 = tI t1 39 0 := by rw [ht21]; rfl
      have kf21_39_4 : tI t21 39 4 = tI t1 39 4 := by rw [ht21]; rfl
      have kf21_39_5 : tI t21 39 5 = tI t1 39 5 := by rw [ht21]; rfl
      have kf21_39_7 : tI t21 39 7 = tI t1 39 7 := by rw [ht21]; rfl
      have kf21_39_8 : tI t21 39 8 = tI t1 39 8 := by rw [ht21]; rfl
      have kf21_39_9 : tI t21 39 9 = tI t1 39 9 := by rw [ht21]; rfl
      have kf21_37_1 : tI t21 37 1 = tI t1 37 1 := by rw [ht21]; rfl
      have fr21 := fr1.uN ht21 (by simp)
      have nm : tN t21 = 1000006 ∨ tN t21 = 1000007 ∨ tN t21 = 1000008 := by
        rw [ht21]
        first | exact Or.inl rfl | exact Or.inr (Or.inl rfl) | exact Or.inr (Or.inr rfl)
      refine w_aload rfl ?_
      refine w_callV0V (oj_39 _).choose_spec rfl (c_X1_step ok21 (by omega)) ?_
      rintro t22 ⟨ok22, fq22, hp22_0, hp22_1, hp22_2, hp22_3, hp22_4⟩
      have fr22 := fr21.then fq22 (by simp)
      have kf22_39_0 : tI t22 39 0 = tI t21 39 0 := fq22.1 39 0 (by simp)
      have kf22_39_4 : tI t22 39 4 = tI t21 39 4 := fq22.1 39 4 (by simp)
      have kf22_39_5 : tI t22 39 5 = tI t21 39 5 := fq22.1 39 5 (by simp)
      have kf22_37_1 : tI t22 37 1 = tI t21 37 1 := fq22.1 37 1 (by simp)
      have lt := hp22_4
      have nm : tN t22 = 1000006 ∨ tN t22 = 1000007 ∨ tN t22 = 1000008 := by rw [fq22.2.2.2.1 (by simp)]; exact nm
      refine w_aload rfl ?_
      refine w_push kc_0 ?_
      refine w_push kc_0 ?_
      refine w_push kc_0 ?_
      refine w_callV3V (oj_39 _).choose_spec rfl (c_X1_readLevel0 ok22 (by omega) (by omega) (by omega) (by omega) (by omega) lt nm rfl rfl rfl) ?_
      rintro t23 ⟨ok23, fq23, hp23_0, hp23_1, hp23_2, hp23_3, hp23_4, hp23_5, hp23_6⟩
      have fr23 := fr22.then fq23 (by simp)
      have kf23_37_1 : tI t23 37 1 = tI t22 37 1 := fq23.1 37 1 (by simp)
      refine w_aload rfl ?_
      refine w_getI (g_39_0 _) fe_39_0 ok23 (fun z24 hz24 hl24 hh24 => ?_)
      refine w_push kc_m1 ?_
      refine w_cne (by omega) (fun h25 => ?_) (fun h25 => ?_)
      · skip
        refine w_step rfl ?_
        refine w_aload rfl ?_
        refine w_getI (g_39_0 _) fe_39_0 ok23 (fun z26 hz26 hl26 hh26 => ?_)
        refine w_push kc_m1 ?_
        refine w_ceq (by omega) (fun h27 => ?_) (fun h27 => ?_)
        · skip
          refine w_step rfl ?_
          have hl6 := fr23.len
          exact rd_blk6 (d := d + 83) ok23 (by omega) (by omega) (by omega) (fun x hx => ⟨ok23.app hx, fr23.toD.uD _, by show (tD t23 ++ [x]).length ≤ _; rw [List.length_append]; simp only [List.length_singleton]; omega, fun r h => ⟨(tD t23).length, by show _ < (tD t23 ++ [x]).length; rw [List.length_append]; simp, (Option.some.inj h).symm⟩⟩)
        refine w_pushV ?_
        refine w_retN rfl ?_
        exact ⟨ok23, fr23.toD, (by have hl := fr23.len; omega), (fun r h => by cases h)⟩
      refine w_aload rfl ?_
      refine w_getI (g_39_7 _) fe_39_7 ok23 (fun z28 hz28 hl28 hh28 => ?_)
      refine w_ieq (by omega) (fun h29 => ?_) (fun h29 => ?_)
      · skip
        refine w_step rfl ?_
        refine w_aload rfl ?_
        refine w_getI (g_39_0 _) fe_39_0 ok23 (fun z30 hz30 hl30 hh30 => ?_)
        refine w_push kc_m1 ?_
        refine w_ceq (by omega) (fun h31 => ?_) (fun h31 => ?_)
        · skip
          refine w_step rfl ?_
          have hl6 := fr23.len
          exact rd_blk6 (d := d + 83) ok23 (by omega) (by omega) (by omega) (fun x hx => ⟨ok23.app hx, fr23.toD.uD _, by show (tD t23 ++ [x]).length ≤ _; rw [List.length_append]; simp only [List.length_singleton]; omega, fun r h => ⟨(tD t23).length, by show _ < (tD t23 ++ [x]).length; rw [List.length_append]; simp, (Option.some.inj h).symm⟩⟩)
        refine w_pushV ?_
        refine w_retN rfl ?_
        exact ⟨ok23, fr23.toD, (by have hl := fr23.len; omega), (fun r h => by cases h)⟩
      refine w_aload rfl ?_
      refine w_aload rfl ?_
      refine w_getI (g_39_8 _) fe_39_8 ok23 (fun z32 hz32 hl32 hh32 => ?_)
      refine w_putI (p_39_0 _) fe_39_0 ok23 (by omega) (fun t33 ht33 ok33 => ?_)
      have kf33_39_0 : tI t33 39 0 = z32 := by rw [ht33, tI_uI, if_pos ⟨rfl, rfl⟩]
      have kf33_39_4 : tI t33 39 4 = tI t23 39 4 := by rw [ht33, tI_uI, if_neg (by decide)]
      have kf33_39_5 : tI t33 39 5 = tI t23 39 5 := by rw [ht33, tI_uI, if_neg (by decide)]
      have kf33_39_7 : tI t33 39 7 = tI t23 39 7 := by rw [ht33, tI_uI, if_neg (by decide)]
      have kf33_39_8 : tI t33 39 8 = tI t23 39 8 := by rw [ht33, tI_uI, if_neg (by decide)]
      have kf33_39_9 : tI t33 39 9 = tI t23 39 9 := by rw [ht33, tI_uI, if_neg (by decide)]
      have kf33_37_1 : tI t33 37 1 = tI t23 37 1 := by rw [ht33, tI_uI, if_neg (by decide)]
      have fr33 := fr23.uI ht33 (by simp)
      refine w_goto ?_
      refine w_step rfl ?_
      refine w_aload rfl ?_
      refine w_getI (g_39_0 _) fe_39_0 ok33 (fun z34 hz34 hl34 hh34 => ?_)
      refine w_push kc_m1 ?_
      refine w_ceq (by omega) (fun h35 => ?_) (fun h35 => ?_)
      · skip
        refine w_step rfl ?_
        have hl6 := fr33.len
        exact rd_blk6 (d := d + 83) ok33 (by omega) (by omega) (by omega) (fun x hx => ⟨ok33.app hx, fr33.toD.uD _, by show (tD t33 ++ [x]).length ≤ _; rw [List.length_append]; simp only [List.length_singleton]; omega, fun r h => ⟨(tD t33).length, by show _ < (tD t33 ++ [x]).length; rw [List.length_append]; simp, (Option.some.inj h).symm⟩⟩)
      refine w_pushV ?_
      refine w_retN rfl ?_
      exact ⟨ok33, fr33.toD, (by have hl := fr33.len; omega), (fun r h => by cases h)⟩
    refine w_pushV ?_
    refine w_goto ?_
    refine w_step rfl ?_
    refine w_putN ok1 (fun t36 ht36 ok36 => ?_)
    have kf36_39_0 : tI t36 39 0 = tI t1 39 0 := by rw [ht36]; rfl
    have kf36_39_4 : tI t36 39 4 = tI t1 39 4 := by rw [ht36]; rfl
    have kf36_39_5 : tI t36 39 5 = tI t1 39 5 := by rw [ht36]; rfl
    have kf36_39_7 : tI t36 39 7 = tI t1 39 7 := by rw [ht36]; rfl
    have kf36_39_8 : tI t36 39 8 = tI t1 39 8 := by rw [ht36]; rfl
    have kf36_39_9 : tI t36 39 9 = tI t1 39 9 := by rw [ht36]; rfl
    have kf36_37_1 : tI t36 37 1 = tI t1 37 1 := by rw [ht36]; rfl
    have fr36 := fr1.uN ht36 (by simp)
    have nm : tN t36 = 1000006 ∨ tN t36 = 1000007 ∨ tN t36 = 1000008 := by
      rw [ht36]
      first | exact Or.inl rfl | exact Or.inr (Or.inl rfl) | exact Or.inr (Or.inr rfl)
    refine w_aload rfl ?_
    refine w_callV0V (oj_39 _).choose_spec rfl (c_X1_step ok36 (by omega)) ?_
    rintro t37 ⟨ok37, fq37, hp37_0, hp37_1, hp37_2, hp37_3, hp37_4⟩
    have fr37 := fr36.then fq37 (by simp)
    have kf37_39_0 : tI t37 39 0 = tI t36 39 0 := fq37.1 39 0 (by simp)
    have kf37_39_4 : tI t37 39 4 = tI t36 39 4 := fq37.1 39 4 (by simp)
    have kf37_39_5 : tI t37 39 5 = tI t36 39 5 := fq37.1 39 5 (by simp)
    have kf37_37_1 : tI t37 37 1 = tI t36 37 1 := fq37.1 37 1 (by simp)
    have lt := hp37_4
    have nm : tN t37 = 1000006 ∨ tN t37 = 1000007 ∨ tN t37 = 1000008 := by rw [fq37.2.2.2.1 (by simp)]; exact nm
    refine w_aload rfl ?_
    refine w_push kc_0 ?_
    refine w_push kc_0 ?_
    refine w_push kc_0 ?_
    refine w_callV3V (oj_39 _).choose_spec rfl (c_X1_readLevel0 ok37 (by omega) (by omega) (by omega) (by omega) (by omega) lt nm rfl rfl rfl) ?_
    rintro t38 ⟨ok38, fq38, hp38_0, hp38_1, hp38_2, hp38_3, hp38_4, hp38_5, hp38_6⟩
    have fr38 := fr37.then fq38 (by simp)
    have kf38_37_1 : tI t38 37 1 = tI t37 37 1 := fq38.1 37 1 (by simp)
    refine w_aload rfl ?_
    refine w_getI (g_39_0 _) fe_39_0 ok38 (fun z39 hz39 hl39 hh39 => ?_)
    refine w_push kc_m1 ?_
    refine w_cne (by omega) (fun h40 => ?_) (fun h40 => ?_)
    · skip
      refine w_step rfl ?_
      refine w_aload rfl ?_
      refine w_getI (g_39_0 _) fe_39_0 ok38 (fun z41 hz41 hl41 hh41 => ?_)
      refine w_push kc_m1 ?_
      refine w_ceq (by omega) (fun h42 => ?_) (fun h42 => ?_)
      · skip
        refine w_step rfl ?_
        have hl6 := fr38.len
        exact rd_blk6 (d := d + 83) ok38 (by omega) (by omega) (by omega) (fun x hx => ⟨ok38.app hx, fr38.toD.uD _, by show (tD t38 ++ [x]).length ≤ _; rw [List.length_append]; simp only [List.length_singleton]; omega, fun r h => ⟨(tD t38).length, by show _ < (tD t38 ++ [x]).length; rw [List.length_append]; simp, (Option.some.inj h).symm⟩⟩)
      refine w_pushV ?_
      refine w_retN rfl ?_
      exact ⟨ok38, fr38.toD, (by have hl := fr38.len; omega), (fun r h => by cases h)⟩
    refine w_aload rfl ?_
    refine w_getI (g_39_7 _) fe_39_7 ok38 (fun z43 hz43 hl43 hh43 => ?_)
    refine w_ieq (by omega) (fun h44 => ?_) (fun h44 => ?_)
    · skip
      refine w_step rfl ?_
      refine w_aload rfl ?_
      refine w_getI (g_39_0 _) fe_39_0 ok38 (fun z45 hz45 hl45 hh45 => ?_)
      refine w_push kc_m1 ?_
      refine w_ceq (by omega) (fun h46 => ?_) (fun h46 => ?_)
      · skip
        refine w_step rfl ?_
        have hl6 := fr38.len
        exact rd_blk6 (d := d + 83) ok38 (by omega) (by omega) (by omega) (fun x hx => ⟨ok38.app hx, fr38.toD.uD _, by show (tD t38 ++ [x]).length ≤ _; rw [List.length_append]; simp only [List.length_singleton]; omega, fun r h => ⟨(tD t38).length, by show _ < (tD t38 ++ [x]).length; rw [List.length_append]; simp, (Option.some.inj h).symm⟩⟩)
      refine w_pushV ?_
      refine w_retN rfl ?_
      exact ⟨ok38, fr38.toD, (by have hl := fr38.len; omega), (fun r h => by cases h)⟩
    refine w_aload rfl ?_
    refine w_aload rfl ?_
    refine w_getI (g_39_8 _) fe_39_8 ok38 (fun z47 hz47 hl47 hh47 => ?_)
    refine w_putI (p_39_0 _) fe_39_0 ok38 (by omega) (fun t48 ht48 ok48 => ?_)
    have kf48_39_0 : tI t48 39 0 = z47 := by rw [ht48, tI_uI, if_pos ⟨rfl, rfl⟩]
    have kf48_39_4 : tI t48 39 4 = tI t38 39 4 := by rw [ht48, tI_uI, if_neg (by decide)]
    have kf48_39_5 : tI t48 39 5 = tI t38 39 5 := by rw [ht48, tI_uI, if_neg (by decide)]
    have kf48_39_7 : tI t48 39 7 = tI t38 39 7 := by rw [ht48, tI_uI, if_neg (by decide)]
    have kf48_39_8 : tI t48 39 8 = tI t38 39 8 := by rw [ht48, tI_uI, if_neg (by decide)]
    have kf48_39_9 : tI t48 39 9 = tI t38 39 9 := by rw [ht48, tI_uI, if_neg (by decide)]
    have kf48_37_1 : tI t48 37 1 = tI t38 37 1 := by rw [ht48, tI_uI, if_neg (by decide)]
    have fr48 := fr38.uI ht48 (by simp)
    refine w_goto ?_
    refine w_step rfl ?_
    refine w_aload rfl ?_
    refine w_getI (g_39_0 _) fe_39_0 ok48 (fun z49 hz49 hl49 hh49 => ?_)
    refine w_push kc_m1 ?_
    refine w_ceq (by omega) (fun h50 => ?_) (fun h50 => ?_)
    · skip
      refine w_step rfl ?_
      have hl6 := fr48.len
      exact rd_blk6 (d := d + 83) ok48 (by omega) (by omega) (by omega) (fun x hx => ⟨ok48.app hx, fr48.toD.uD _, by show (tD t48 ++ [x]).length ≤ _; rw [List.length_append]; simp only [List.length_singleton]; omega, fun r h => ⟨(tD t48).length, by show _ < (tD t48 ++ [x]).length; rw [List.length_append]; simp, (Option.some.inj h).symm⟩⟩)
    refine w_pushV ?_
    refine w_retN rfl ?_
    exact ⟨ok48, fr48.toD, (by have hl := fr48.len; omega), (fun r h => by cases h)⟩
  refine w_aload rfl ?_
  refine w_aload rfl ?_
  refine w_getI (g_39_8 _) fe_39_8 ok1 (fun z51 hz51 hl51 hh51 => ?_)
  refine w_putI (p_39_0 _) fe_39_0 ok1 (by omega) (fun t52 ht52 ok52 => ?_)
  have kf52_39_0 : tI t52 39 0 = z51 := by rw [ht52, tI_uI, if_pos ⟨rfl, rfl⟩]
  have kf52_39_4 : tI t52 39 4 = tI t1 39 4 := by rw [ht52, tI_uI, if_neg (by decide)]
  have kf52_39_5 : tI t52 39 5 = tI t1 39 5 := by rw [ht52, tI_uI, if_neg (by decide)]
  have kf52_39_7 : tI t52 39 7 = tI t1 39 7 := by rw [ht52, tI_uI, if_neg (by decide)]
  have kf52_39_8 : tI t52 39 8 = tI t1 39 8 := by rw [ht52, tI_uI, if_neg (by decide)]
  have kf52_39_9 : tI t52 39 9 = tI t1 39 9 := by rw [ht52, tI_uI, if_neg (by decide)]
  have kf52_37_1 : tI t52 37 1 = tI t1 37 1 := by rw [ht52, tI_uI, if_neg (by decide)]
  have fr52 := fr1.uI ht52 (by simp)
  refine w_pushV ?_
  refine w_retN rfl ?_
  exact ⟨ok52, fr52.toD, (by have hl := fr52.len; omega), (fun r h => by cases h)⟩
set_option maxRecDepth 100000 in
set_option maxHeartbeats 4000000 in
theorem c_X8_text {d : Nat} {t : TS}  (ok : OK t) (q0 : (tD t).length ≤ 90000) : CI (EX FU (d + 86)) 102 [.ref 0] (mk t) (fun z t' => OK t' ∧ FrD [(39, 0), (39, 4), (39, 5), (39, 7), (39, 8), (39, 9), (39, 10), (40, 100), (41, 100), (39, 6), (37, 1), (1, 11), (10, 101), (11, 100), (9, 100)] t t' ∧ (tD t').length ≤ (tD t).length + 1 ∧ (tI t' 37 1 = 0) ∧ (-2147483648 ≤ z) ∧ (z ≤ 2147483647)) := by
  refine CI_ent (d := d + 85) (Bk := bX8_text) (nL := 2) rfl rfl rfl (Nat.le_of_ble_eq_true rfl) ?_
  show Rn _ 1000000 0 [some (.ref 0), none] [] _ _
  have fr : Fr [(39, 0), (39, 4), (39, 5), (39, 7), (39, 8), (39, 9), (39, 10), (40, 100), (41, 100), (39, 6), (37, 1), (1, 11), (10, 101), (11, 100), (9, 100)] t t := Fr.rf _ _
  refine w_step rfl ?_
  refine w_aload rfl ?_
  refine w_getR (g_0_4 _) ?_
  refine w_callV0R (oj_39 _).choose_spec rfl (c_X1_readText ok (by omega)) ?_ ?_
  · rintro t1 ⟨ok1, fd1, hl1, hr1⟩
    have fr1 : Fr [(39, 0), (39, 4), (39, 5), (39, 7), (39, 8), (39, 9), (39, 10), (40, 100), (41, 100), (39, 6), (37, 1), (1, 11), (10, 101), (11, 100), (9, 100)] t1 t1 := Fr.rf _ _
    refine w_astoreN (lv' := [some (.ref 0), some (.null)]) rfl ?_
    refine w_aload rfl ?_
    refine w_getR (g_0_3 _) ?_
    refine w_push kc_0 ?_
    refine w_putI (p_37_1 _) fe_37_1 ok1 (by omega) (fun t2 ht2 ok2 => ?_)
    have kf2_37_1 : tI t2 37 1 = 0 := by rw [ht2, tI_uI, if_pos ⟨rfl, rfl⟩]
    have fr2 := fr1.uI ht2 (by simp)
    refine w_aloadN rfl ?_
    refine w_ifnonnullN ?_
    refine w_push kc_m100 ?_
    refine w_aload rfl ?_
    refine w_getR (g_0_4 _) ?_
    refine w_getI (g_39_0 _) fe_39_0 ok2 (fun z3 hz3 hl3 hh3 => ?_)
    refine w_sub ?_
    refine w_retI rfl ?_
    exact ⟨ok2, ((fr.toD.then fd1 (by simp)).then fr2.toD (fun _ h => h)), (by have hl := fr2.len; omega), (by omega), (by omega), (by omega)⟩
  rintro r1 t1 ⟨ok1, fd1, hl1, hr1⟩
  obtain ⟨j1, hj1, rfl⟩ := hr1 _ rfl
  have fr1 : Fr [(39, 0), (39, 4), (39, 5), (39, 7), (39, 8), (39, 9), (39, 10), (40, 100), (41, 100), (39, 6), (37, 1), (1, 11), (10, 101), (11, 100), (9, 100)] t1 t1 := Fr.rf _ _
  refine w_astore (lv' := [some (.ref 0), some (.ref (92 + 4 * j1))]) rfl ?_
  refine w_aload rfl ?_
  refine w_getR (g_0_3 _) ?_
  refine w_push kc_0 ?_
  refine w_putI (p_37_1 _) fe_37_1 ok1 (by omega) (fun t4 ht4 ok4 => ?_)
  have kf4_37_1 : tI t4 37 1 = 0 := by rw [ht4, tI_uI, if_pos ⟨rfl, rfl⟩]
  have fr4 := fr1.uI ht4 (by simp)
  refine w_aload rfl ?_
  refine w_ifnonnullR ?_
  refine w_step rfl ?_
  refine w_aload rfl ?_
  refine w_getR (g_0_0 _) ?_
  refine w_getI (g_1_11 _) fe_1_11 ok4 (fun z5 hz5 hl5 hh5 => ?_)
  refine w_push kc_14 ?_
  refine w_clt (by omega) (fun h6 => ?_) (fun h6 => ?_)
  · skip
    refine w_step rfl ?_
    refine w_aload rfl ?_
    refine w_getR (g_0_0 _) ?_
    refine w_aload rfl ?_
    refine w_callV1I (oj_1 _).choose_spec rfl (c_X4_addText isT1 (by have hl := fr4.len; omega) ok4 (by omega)) ?_
    rintro z7 t7 ⟨ok7, fq7, hp7_0⟩
    have fr7 := fr4.then fq7 (by simp)
    have kf7_37_1 : tI t7 37 1 = tI t4 37 1 := fq7.1 37 1 (by simp)
    refine w_retI rfl ?_
    exact ⟨ok7, ((fr.toD.then fd1 (by simp)).then fr7.toD (fun _ h => h)), (by have hl := fr7.len; omega), (by omega), (by omega), (by omega)⟩
  refine w_push kc_m1000000003 ?_
  refine w_retI rfl ?_
  exact ⟨ok4, ((fr.toD.then fd1 (by simp)).then fr4.toD (fun _ h => h)), (by have hl := fr4.len; omega), (by omega), (by omega), (by omega)⟩
