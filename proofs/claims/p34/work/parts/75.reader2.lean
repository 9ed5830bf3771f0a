theorem isS_nm {q : Nat} (h : q = 1000006 ∨ q = 1000007 ∨ q = 1000008) : ab_isS q = true := by
  rcases h with rfl | rfl | rfl <;> rfl
theorem c_ixN {d q : Nat} (t : TS) {c : Int} (hq : q = 1000006 ∨ q = 1000007 ∨ q = 1000008) (hc : 97 ≤ c ∧ c ≤ 122) : CI (EX FU (d + 6)) 231 [.ref q, .int (jI c)] (mk t) (fun z t' => t = t' ∧ z = nmF ((q : Int) - 1000006) c ∧ -1 ≤ z ∧ z ≤ 2) := by
  have hb : ∀ k, -1 ≤ nmF k c ∧ nmF k c ≤ 2 := by
    intro k
    unfold nmF
    (repeat' split) <;> omega
  rcases hq with rfl | rfl | rfl
  · exact (c_ix6 t hc).mono (fun z t' h => ⟨h.1, h.2, by rw [h.2]; exact (hb 0).1, by rw [h.2]; exact (hb 0).2⟩)
  · exact (c_ix7 t hc).mono (fun z t' h => ⟨h.1, h.2, by rw [h.2]; exact (hb 1).1, by rw [h.2]; exact (hb 1).2⟩)
  · exact (c_ix8 t hc).mono (fun z t' h => ⟨h.1, h.2, by rw [h.2]; exact (hb 2).1, by rw [h.2]; exact (hb 2).2⟩)
theorem c_chN3 {d : Nat} (t : TS) {i : Int} (hi : 0 ≤ i ∧ i < 4) : CI (EX FU (d + 5)) 230 [.ref (1000000 + 3), .int (jI i)] (mk t) (fun z t' => t = t' ∧ 0 ≤ z ∧ z ≤ 255) := by
  have h : i = 0 ∨ i = 1 ∨ i = 2 ∨ i = 3 := by omega
  rcases h with rfl | rfl | rfl | rfl
  · exact ⟨100, t, c_ch3_0 t, rfl, by decide, by decide⟩
  · exact ⟨97, t, c_ch3_1 t, rfl, by decide, by decide⟩
  · exact ⟨114, t, c_ch3_2 t, rfl, by decide, by decide⟩
  · exact ⟨107, t, c_ch3_3 t, rfl, by decide, by decide⟩
theorem c_chN4 {d : Nat} (t : TS) {i : Int} (hi : 0 ≤ i ∧ i < 3) : CI (EX FU (d + 5)) 230 [.ref (1000000 + 4), .int (jI i)] (mk t) (fun z t' => t = t' ∧ 0 ≤ z ∧ z ≤ 255) := by
  have h : i = 0 ∨ i = 1 ∨ i = 2 := by omega
  rcases h with rfl | rfl | rfl
  · exact ⟨102, t, c_ch4_0 t, rfl, by decide, by decide⟩
  · exact ⟨101, t, c_ch4_1 t, rfl, by decide, by decide⟩
  · exact ⟨101, t, c_ch4_2 t, rfl, by decide, by decide⟩
theorem c_chN5 {d : Nat} (t : TS) {i : Int} (hi : 0 ≤ i ∧ i < 4) : CI (EX FU (d + 5)) 230 [.ref (1000000 + 5), .int (jI i)] (mk t) (fun z t' => t = t' ∧ 0 ≤ z ∧ z ≤ 255) := by
  have h : i = 0 ∨ i = 1 ∨ i = 2 ∨ i = 3 := by omega
  rcases h with rfl | rfl | rfl | rfl
  · exact ⟨102, t, c_ch5_0 t, rfl, by decide, by decide⟩
  · exact ⟨105, t, c_ch5_1 t, rfl, by decide, by decide⟩
  · exact ⟨110, t, c_ch5_2 t, rfl, by decide, by decide⟩
  · exact ⟨101, t, c_ch5_3 t, rfl, by decide, by decide⟩
set_option maxRecDepth 100000 in
set_option maxHeartbeats 4000000 in
theorem c_X1_close {d : Nat} {t : TS}  (ok : OK t) (q0 : tI t 39 9 ≤ tI t 37 1) (q1 : tI t 39 8 ≤ tI t 39 9) (q2 : tI t 39 7 ≤ 3 * (tI t 39 9 - tI t 39 8)) (q3 : tI t 39 4 + 3 ≤ tI t 39 8) (q4 : tI t 39 5 + 3 ≤ tI t 39 8) (q5 : LTp t) (q6 : tN t = 1000006 ∨ tN t = 1000007 ∨ tN t = 1000008) : CV (EX FU (d + 3)) 15 [.ref 39] (mk t) (fun t' => OK t' ∧ Fr [(39, 0), (39, 4), (39, 5), (39, 7), (39, 8), (39, 9), (39, 10), (40, 100), (41, 100)] t t' ∧ (tI t' 39 9 ≤ tI t 37 1) ∧ (tI t' 39 8 ≤ tI t' 39 9) ∧ (tI t' 39 7 ≤ 3 * (tI t' 39 9 - tI t' 39 8)) ∧ (tI t' 39 4 + tI t 39 8 ≤ tI t 39 4 + tI t' 39 8) ∧ (tI t' 39 5 + tI t 39 8 ≤ tI t 39 5 + tI t' 39 8) ∧ (tI t 39 8 ≤ tI t' 39 8) ∧ (LTp t')) := by
  refine CV_ent (d := d + 2) (Bk := bX1_close) (nL := 1) rfl rfl rfl (Nat.le_of_ble_eq_true rfl) ?_
  show Rn _ 1000000 0 [some (.ref 39)] [] _ _
  have fr : Fr [(39, 0), (39, 4), (39, 5), (39, 7), (39, 8), (39, 9), (39, 10), (40, 100), (41, 100)] t t := Fr.rf _ _
  have lt := q5
  refine w_step rfl ?_
  refine w_aload rfl ?_
  refine w_getI (g_39_0 _) fe_39_0 ok (fun z1 hz1 hl1 hh1 => ?_)
  refine w_push kc_m1 ?_
  refine w_ceq (by omega) (fun h2 => ?_) (fun h2 => ?_)
  · skip
    refine w_step rfl ?_
    refine w_aload rfl ?_
    refine w_callV0I (oj_39 _).choose_spec rfl (c_X1_signAtHand ok) ?_
    rintro z3 t3 ⟨rfl, hp3_0, hp3_1, hp3_2⟩
    refine w_push kc_41 ?_
    refine w_cne (by omega) (fun h4 => ?_) (fun h4 => ?_)
    · skip
      refine w_step rfl ?_
      refine w_aload rfl ?_
      refine w_aload rfl ?_
      refine w_getI (g_39_8 _) fe_39_8 ok (fun z5 hz5 hl5 hh5 => ?_)
      refine w_putI (p_39_0 _) fe_39_0 ok (by omega) (fun t6 ht6 ok6 => ?_)
      have kf6_39_0 : tI t6 39 0 = z5 := by rw [ht6, tI_uI, if_pos ⟨rfl, rfl⟩]
      have kf6_39_4 : tI t6 39 4 = tI t 39 4 := by rw [ht6, tI_uI, if_neg (by decide)]
      have kf6_39_5 : tI t6 39 5 = tI t 39 5 := by rw [ht6, tI_uI, if_neg (by decide)]
      have kf6_39_7 : tI t6 39 7 = tI t 39 7 := by rw [ht6, tI_uI, if_neg (by decide)]
      have kf6_39_8 : tI t6 39 8 = tI t 39 8 := by rw [ht6, tI_uI, if_neg (by decide)]
      have kf6_39_9 : tI t6 39 9 = tI t 39 9 := by rw [ht6, tI_uI, if_neg (by decide)]
      have kf6_37_1 : tI t6 37 1 = tI t 37 1 := by rw [ht6, tI_uI, if_neg (by decide)]
      have fr6 := fr.uI ht6 (by simp)
      have lt : LTp t6 := by
        intro h9
        rw [ht6, tA_uI, tI_uI, if_neg (by decide)]
        exact lt (by omega)
      refine w_goto ?_
      refine w_step rfl ?_
      refine w_retV ?_
      exact ⟨ok6, fr6, (by omega), (by omega), (by omega), (by omega), (by omega), (by omega), lt⟩
    refine w_aload rfl ?_
    refine w_callV0V (oj_39 _).choose_spec rfl (c_X1_step ok (by omega)) ?_
    rintro t7 ⟨ok7, fq7, hp7_0, hp7_1, hp7_2, hp7_3, hp7_4⟩
    have fr7 := fr.then fq7 (by simp)
    have kf7_39_0 : tI t7 39 0 = tI t 39 0 := fq7.1 39 0 (by simp)
    have kf7_39_4 : tI t7 39 4 = tI t 39 4 := fq7.1 39 4 (by simp)
    have kf7_39_5 : tI t7 39 5 = tI t 39 5 := fq7.1 39 5 (by simp)
    have kf7_37_1 : tI t7 37 1 = tI t 37 1 := fq7.1 37 1 (by simp)
    have lt := hp7_4
    refine w_goto ?_
    refine w_step rfl ?_
    refine w_retV ?_
    exact ⟨ok7, fr7, (by omega), (by omega), (by omega), (by omega), (by omega), (by omega), lt⟩
  refine w_retV ?_
  exact ⟨ok, fr, (by omega), (by omega), (by omega), (by omega), (by omega), (by omega), lt⟩
set_option maxRecDepth 100000 in
set_option maxHeartbeats 4000000 in
theorem c_X1_nameAtHand {d : Nat} {t : TS}  (ok : OK t) (q0 : tI t 39 8 < tI t 37 1) (q1 : 97 ≤ tA t 38 (tI t 39 8).toNat) (q2 : tA t 38 (tI t 39 8).toNat ≤ 122) (q3 : tN t = 1000006 ∨ tN t = 1000007 ∨ tN t = 1000008) : CI (EX FU (d + 7)) 18 [.ref 39] (mk t) (fun z t' => t = t' ∧ (z = nmF ((tN t : Int) - 1000006) (tA t 38 (tI t 39 8).toNat)) ∧ (-1 ≤ z) ∧ (z ≤ 2)) := by
  refine CI_ent (d := d + 6) (Bk := bX1_nameAtHand) (nL := 1) rfl rfl rfl (Nat.le_of_ble_eq_true rfl) ?_
  show Rn _ 1000000 0 [some (.ref 39)] [] _ _
  have r37 := ok.f fe_37_1
  refine w_step rfl ?_
  refine w_aload rfl ?_
  refine w_getR (g_39_6 _) ?_
  refine w_aload rfl ?_
  refine w_getR (g_39_1 _) ?_
  refine w_getR (g_37_0 _) ?_
  refine w_aload rfl ?_
  refine w_getI (g_39_8 _) fe_39_8 ok (fun z1 hz1 hl1 hh1 => ?_)
  refine w_iald (i := (z1).toNat) (ai_38 _) (by omega) (by omega) (ae_38 _) ok (fun z2 hz2 hl2 hh2 => ?_)
  rw [hz1] at hz2
  have eb := hz2
  refine w_un (fun z3 hz3 hl3 hh3 => ?_)
  have ei := i2c_id (by omega) hz3
  refine w_callX1I (isS_nm q3) rfl (c_ixN _ q3 (by omega)) ?_
  rintro z4 t4 ⟨rfl, hp4_0, hp4_1, hp4_2⟩
  refine w_retI rfl ?_
  exact ⟨rfl, (by rw [← eb, ← ei]; assumption), (by omega), (by omega)⟩
set_option maxRecDepth 100000 in
set_option maxHeartbeats 4000000 in
theorem c_X1_readOperand {d : Nat} {t : TS}  (ok : OK t) (q0 : tI t 39 9 ≤ tI t 37 1) (q1 : tI t 39 8 ≤ tI t 39 9) (q2 : tI t 39 7 ≤ 3 * (tI t 39 9 - tI t 39 8)) (q3 : tI t 39 4 + 3 ≤ tI t 39 8) (q4 : tI t 39 5 + 3 ≤ tI t 39 8) (q5 : LTp t) (q6 : tN t = 1000006 ∨ tN t = 1000007 ∨ tN t = 1000008) : CV (EX FU (d + 8)) 16 [.ref 39] (mk t) (fun t' => OK t' ∧ Fr [(39, 0), (39, 4), (39, 5), (39, 7), (39, 8), (39, 9), (39, 10), (40, 100), (41, 100)] t t' ∧ (tI t' 39 9 ≤ tI t 37 1) ∧ (tI t' 39 8 ≤ tI t' 39 9) ∧ (tI t' 39 7 ≤ 3 * (tI t' 39 9 - tI t' 39 8)) ∧ (tI t' 39 4 + tI t 39 8 ≤ tI t 39 4 + tI t' 39 8) ∧ (tI t' 39 5 + tI t 39 8 ≤ tI t 39 5 + tI t' 39 8) ∧ (tI t 39 8 ≤ tI t' 39 8) ∧ (LTp t')) := by
  refine CV_ent (d := d + 7) (Bk := bX1_readOperand) (nL := 1) rfl rfl rfl (Nat.le_of_ble_eq_true rfl) ?_
  show Rn _ 1000000 0 [some (.ref 39)] [] _ _
  have fr : Fr [(39, 0), (39, 4), (39, 5), (39, 7), (39, 8), (39, 9), (39, 10), (40, 100), (41, 100)] t t := Fr.rf _ _
  have lt := q5
  have r37 := ok.f fe_37_1
  refine w_step rfl ?_
  refine w_aload rfl ?_
  refine w_getI (g_39_10 _) fe_39_10 ok (fun z1 hz1 hl1 hh1 => ?_)
  refine w_ieq (by omega) (fun h2 => ?_) (fun h2 => ?_)
  · skip
    refine w_step rfl ?_
    refine w_aload rfl ?_
    refine w_getI (g_39_7 _) fe_39_7 ok (fun z3 hz3 hl3 hh3 => ?_)
    refine w_push kc_2 ?_
    refine w_cne (by omega) (fun h4 => ?_) (fun h4 => ?_)
    · skip
      refine w_step rfl ?_
      refine w_aload rfl ?_
      refine w_getI (g_39_7 _) fe_39_7 ok (fun z5 hz5 hl5 hh5 => ?_)
      refine w_push kc_1 ?_
      refine w_cne (by omega) (fun h6 => ?_) (fun h6 => ?_)
      · skip
        refine w_step rfl ?_
        refine w_aload rfl ?_
        refine w_aload rfl ?_
        refine w_getI (g_39_8 _) fe_39_8 ok (fun z7 hz7 hl7 hh7 => ?_)
        refine w_putI (p_39_0 _) fe_39_0 ok (by omega) (fun t8 ht8 ok8 => ?_)
        have kf8_39_0 : tI t8 39 0 = z7 := by rw [ht8, tI_uI, if_pos ⟨rfl, rfl⟩]
        have kf8_39_4 : tI t8 39 4 = tI t 39 4 := by rw [ht8, tI_uI, if_neg (by decide)]
        have kf8_39_5 : tI t8 39 5 = tI t 39 5 := by rw [ht8, tI_uI, if_neg (by decide)]
        have kf8_39_7 : tI t8 39 7 = tI t 39 7 := by rw [ht8, tI_uI, if_neg (by decide)]
        have kf8_39_8 : tI t8 39 8 = tI t 39 8 := by rw [ht8, tI_uI, if_neg (by decide)]
        have kf8_39_9 : tI t8 39 9 = tI t 39 9 := by rw [ht8, tI_uI, if_neg (by decide)]
        have kf8_37_1 : tI t8 37 1 = tI t 37 1 := by rw [ht8, tI_uI, if_neg (by decide)]
        have fr8 := fr.uI ht8 (by simp)
        have lt : LTp t8 := by
          intro h9
          rw [ht8, tA_uI, tI_uI, if_neg (by decide)]
          exact lt (by omega)
        refine w_goto ?_
        refine w_step rfl ?_
        refine w_retV ?_
        exact ⟨ok8, fr8, (by omega), (by omega), (by omega), (by omega), (by omega), (by omega), lt⟩
      refine w_aload rfl ?_
      refine w_getI (g_39_9 _) fe_39_9 ok (fun z9 hz9 hl9 hh9 => ?_)
      refine w_aload rfl ?_
      refine w_getI (g_39_8 _) fe_39_8 ok (fun z10 hz10 hl10 hh10 => ?_)
      refine w_sub ?_
      refine w_push kc_1 ?_
      refine w_cne (by omega) (fun h11 => ?_) (fun h11 => ?_)
      · skip
        refine w_step rfl ?_
        refine w_aload rfl ?_
        refine w_aload rfl ?_
        refine w_getI (g_39_8 _) fe_39_8 ok (fun z12 hz12 hl12 hh12 => ?_)
        refine w_putI (p_39_0 _) fe_39_0 ok (by omega) (fun t13 ht13 ok13 => ?_)
        have kf13_39_0 : tI t13 39 0 = z12 := by rw [ht13, tI_uI, if_pos ⟨rfl, rfl⟩]
        have kf13_39_4 : tI t13 39 4 = tI t 39 4 := by rw [ht13, tI_uI, if_neg (by decide)]
        have kf13_39_5 : tI t13 39 5 = tI t 39 5 := by rw [ht13, tI_uI, if_neg (by decide)]
        have kf13_39_7 : tI t13 39 7 = tI t 39 7 := by rw [ht13, tI_uI, if_neg (by decide)]
        have kf13_39_8 : tI t13 39 8 = tI t 39 8 := by rw [ht13, tI_uI, if_neg (by decide)]
        have kf13_39_9 : tI t13 39 9 = tI t 39 9 := by rw [ht13, tI_uI, if_neg (by decide)]
        have kf13_37_1 : tI t13 37 1 = tI t 37 1 := by rw [ht13, tI_uI, if_neg (by decide)]
        have fr13 := fr.uI ht13 (by simp)
        have lt : LTp t13 := by
          intro h9
          rw [ht13, tA_uI, tI_uI, if_neg (by decide)]
          exact lt (by omega)
        refine w_goto ?_
        refine w_step rfl ?_
        refine w_retV ?_
        exact ⟨ok13, fr13, (by omega), (by omega), (by omega), (by omega), (by omega), (by omega), lt⟩
      refine w_aload rfl ?_
      refine w_callV0I (oj_39 _).choose_spec rfl (c_X1_nameAtHand ok (by omega) (lt (by omega)).1 (lt (by omega)).2 q6) ?_
      rintro z14 t14 ⟨rfl, hp14_0, hp14_1, hp14_2⟩
      refine w_push kc_m1 ?_
      refine w_ceq (by omega) (fun h15 => ?_) (fun h15 => ?_)
      · skip
        refine w_step rfl ?_
        refine w_aload rfl ?_
        refine w_aload rfl ?_
        refine w_getI (g_39_8 _) fe_39_8 ok (fun z16 hz16 hl16 hh16 => ?_)
        refine w_putI (p_39_0 _) fe_39_0 ok (by omega) (fun t17 ht17 ok17 => ?_)
        have kf17_39_0 : tI t17 39 0 = z16 := by rw [ht17, tI_uI, if_pos ⟨rfl, rfl⟩]
        have kf17_39_4 : tI t17 39 4 = tI t 39 4 := by rw [ht17, tI_uI, if_neg (by decide)]
        have kf17_39_5 : tI t17 39 5 = tI t 39 5 := by rw [ht17, tI_uI, if_neg (by decide)]
        have kf17_39_7 : tI t17 39 7 = tI t 39 7 := by rw [ht17, tI_uI, if_neg (by decide)]
        have kf17_39_8 : tI t17 39 8 = tI t 39 8 := by rw [ht17, tI_uI, if_neg (by decide)]
        have kf17_39_9 : tI t17 39 9 = tI t 39 9 := by rw [ht17, tI_uI, if_neg (by decide)]
        have kf17_37_1 : tI t17 37 1 = tI t 37 1 := by rw [ht17, tI_uI, if_neg (by decide)]
        have fr17 := fr.uI ht17 (by simp)
        have lt : LTp t17 := by
          intro h9
          rw [ht17, tA_uI, tI_uI, if_neg (by decide)]
          exact lt (by omega)
        refine w_goto ?_
        refine w_step rfl ?_
        refine w_retV ?_
        exact ⟨ok17, fr17, (by omega), (by omega), (by omega), (by omega), (by omega), (by omega), lt⟩
      refine w_aload rfl ?_
      refine w_push kc_1 ?_
      refine w_aload rfl ?_
      refine w_callV0I (oj_39 _).choose_spec rfl (c_X1_nameAtHand ok (by omega) (lt (by omega)).1 (lt (by omega)).2 q6) ?_
      rintro z18 t18 ⟨rfl, hp18_0, hp18_1, hp18_2⟩
      refine w_callV2V (oj_39 _).choose_spec rfl (c_X1_emit ok (by omega) (by omega) (by omega) (by omega)) ?_
      rintro t19 ⟨ok19, fq19, hp19_0, hp19_1⟩
      have fr19 := fr.then fq19 (by simp)
      have kf19_39_0 : tI t19 39 0 = tI t 39 0 := fq19.1 39 0 (by simp)
      have kf19_39_5 : tI t19 39 5 = tI t 39 5 := fq19.1 39 5 (by simp)
      have kf19_39_7 : tI t19 39 7 = tI t 39 7 := fq19.1 39 7 (by simp)
      have kf19_39_8 : tI t19 39 8 = tI t 39 8 := fq19.1 39 8 (by simp)
      have kf19_39_9 : tI t19 39 9 = tI t 39 9 := fq19.1 39 9 (by simp)
      have kf19_37_1 : tI t19 37 1 = tI t 37 1 := fq19.1 37 1 (by simp)
      refine w_aload rfl ?_
      refine w_dupR ?_
      refine w_getI (g_39_5 _) fe_39_5 ok19 (fun z20 hz20 hl20 hh20 => ?_)
      refine w_push kc_1 ?_
      refine w_add ?_
      refine w_putI (p_39_5 _) fe_39_5 ok19 (by omega) (fun t21 ht21 ok21 => ?_)
      have kf21_39_0 : tI t21 39 0 = tI t19 39 0 := by rw [ht21, tI_uI, if_neg (by decide)]
      have kf21_39_4 : tI t21 39 4 = tI t19 39 4 := by rw [ht21, tI_uI, if_neg (by decide)]
      have kf21_39_5 : tI t21 39 5 = (z20 + 1) := by rw [ht21, tI_uI, if_pos ⟨rfl, rfl⟩]
      have kf21_39_7 : tI t21 39 7 = tI t19 39 7 := by rw [ht21, tI_uI, if_neg (by decide)]
      have kf21_39_8 : tI t21 39 8 = tI t19 39 8 := by rw [ht21, tI_uI, if_neg (by decide)]
      have kf21_39_9 : tI t21 39 9 = tI t19 39 9 := by rw [ht21, tI_uI, if_neg (by decide)]
      have kf21_37_1 : tI t21 37 1 = tI t19 37 1 := by rw [ht21, tI_uI, if_neg (by decide)]
      have fr21 := fr19.uI ht21 (by simp)
      refine w_aload rfl ?_
      refine w_callV0V (oj_39 _).choose_spec rfl (c_X1_step ok21 (by omega)) ?_
      rintro t22 ⟨ok22, fq22, hp22_0, hp22_1, hp22_2, hp22_3, hp22_4⟩
      have fr22 := fr21.then fq22 (by simp)
      have kf22_39_0 : tI t22 39 0 = tI t21 39 0 := fq22.1 39 0 (by simp)
      have kf22_39_4 : tI t22 39 4 = tI t21 39 4 := fq22.1 39 4 (by simp)
      have kf22_39_5 : tI t22 39 5 = tI t21 39 5 := fq22.1 39 5 (by simp)
      have kf22_37_1 : tI t22 37 1 = tI t21 37 1 := fq22.1 37 1 (by simp)
      have lt := hp22_4
      refine w_goto ?_
      refine w_step rfl ?_
      refine w_retV ?_
      exact ⟨ok22, fr22, (by omega), (by omega), (by omega), (by omega), (by omega), (by omega), lt⟩
    refine w_aload rfl ?_
    refine w_getI (g_39_9 _) fe_39_9 ok (fun z23 hz23 hl23 hh23 => ?_)
    refine w_aload rfl ?_
    refine w_getI (g_39_8 _) fe_39_8 ok (fun z24 hz24 hl24 hh24 => ?_)
    refine w_sub ?_
    refine w_push kc_4 ?_
    refine w_cgt (by omega) (fun h25 => ?_) (fun h25 => ?_)
    · skip
      refine w_step rfl ?_
      refine w_aload rfl ?_
      refine w_getI (g_39_7 _) fe_39_7 ok (fun z26 hz26 hl26 hh26 => ?_)
      refine w_push kc_1 ?_
      refine w_cne (by omega) (fun h27 => ?_) (fun h27 => ?_)
      · skip
        refine w_step rfl ?_
        refine w_aload rfl ?_
        refine w_aload rfl ?_
        refine w_getI (g_39_8 _) fe_39_8 ok (fun z28 hz28 hl28 hh28 => ?_)
        refine w_putI (p_39_0 _) fe_39_0 ok (by omega) (fun t29 ht29 ok29 => ?_)
        have kf29_39_0 : tI t29 39 0 = z28 := by rw [ht29, tI_uI, if_pos ⟨rfl, rfl⟩]
        have kf29_39_4 : tI t29 39 4 = tI t 39 4 := by rw [ht29, tI_uI, if_neg (by decide)]
        have kf29_39_5 : tI t29 39 5 = tI t 39 5 := by rw [ht29, tI_uI, if_neg (by decide)]
        have kf29_39_7 : tI t29 39 7 = tI t 39 7 := by rw [ht29, tI_uI, if_neg (by decide)]
        have kf29_39_8 : tI t29 39 8 = tI t 39 8 := by rw [ht29, tI_uI, if_neg (by decide)]
        have kf29_39_9 : tI t29 39 9 = tI t 39 9 := by rw [ht29, tI_uI, if_neg (by decide)]
        have kf29_37_1 : tI t29 37 1 = tI t 37 1 := by rw [ht29, tI_uI, if_neg (by decide)]
        have fr29 := fr.uI ht29 (by simp)
        have lt : LTp t29 := by
          intro h9
          rw [ht29, tA_uI, tI_uI, if_neg (by decide)]
          exact lt (by omega)
        refine w_goto ?_
        refine w_step rfl ?_
        refine w_retV ?_
        exact ⟨ok29, fr29, (by omega), (by omega), (by omega), (by omega), (by omega), (by omega), lt⟩
      refine w_aload rfl ?_
      refine w_getI (g_39_9 _) fe_39_9 ok (fun z30 hz30 hl30 hh30 => ?_)
      refine w_aload rfl ?_
      refine w_getI (g_39_8 _) fe_39_8 ok (fun z31 hz31 hl31 hh31 => ?_)
      refine w_sub ?_
      refine w_push kc_1 ?_
      refine w_cne (by omega) (fun h32 => ?_) (fun h32 => ?_)
      · skip
        refine w_step rfl ?_
        refine w_aload rfl ?_
        refine w_aload rfl ?_
        refine w_getI (g_39_8 _) fe_39_8 ok (fun z33 hz33 hl33 hh33 => ?_)
        refine w_putI (p_39_0 _) fe_39_0 ok (by omega) (fun t34 ht34 ok34 => ?_)
        have kf34_39_0 : tI t34 39 0 = z33 := by rw [ht34, tI_uI, if_pos ⟨rfl, rfl⟩]
        have kf34_39_4 : tI t34 39 4 = tI t 39 4 := by rw [ht34, tI_uI, if_neg (by decide)]
        have kf34_39_5 : tI t34 39 5 = tI t 39 5 := by rw [ht34, tI_uI, if_neg (by decide)]
        have kf34_39_7 : tI t34 39 7 = tI t 39 7 := by rw [ht34, tI_uI, if_neg (by decide)]
        have kf34_39_8 : tI t34 39 8 = tI t 39 8 := by rw [ht34, tI_uI, if_neg (by decide)]
        have kf34_39_9 : tI t34 39 9 = tI t 39 9 := by rw [ht34, tI_uI, if_neg (by decide)]
        have kf34_37_1 : tI t34 37 1 = tI t 37 1 := by rw [ht34, tI_uI, if_neg (by decide)]
        have fr34 := fr.uI ht34 (by simp)
        have lt : LTp t34 := by
          intro h9
          rw [ht34, tA_uI, tI_uI, if_neg (by decide)]
          exact lt (by omega)
        refine w_goto ?_
        refine w_step rfl ?_
        refine w_retV ?_
        exact ⟨ok34, fr34, (by omega), (by omega), (by omega), (by omega), (by omega), (by omega), lt⟩
      refine w_aload rfl ?_
      refine w_callV0I (oj_39 _).choose_spec rfl (c_X1_nameAtHand ok (by omega) (lt (by omega)).1 (lt (by omega)).2 q6) ?_
      rintro z35 t35 ⟨rfl, hp35_0, hp35_1, hp35_2⟩
      refine w_push kc_m1 ?_
      refine w_ceq (by omega) (fun h36 => ?_) (fun h36 => ?_)
      · skip
        refine w_step rfl ?_
        refine w_aload rfl ?_
        refine w_aload rfl ?_
        refine w_getI (g_39_8 _) fe_39_8 ok (fun z37 hz37 hl37 hh37 => ?_)
        refine w_putI (p_39_0 _) fe_39_0 ok (by omega) (fun t38 ht38 ok38 => ?_)
        have kf38_39_0 : tI t38 39 0 = z37 := by rw [ht38, tI_uI, if_pos ⟨rfl, rfl⟩]
        have kf38_39_4 : tI t38 39 4 = tI t 39 4 := by rw [ht38, tI_uI, if_neg (by decide)]
        have kf38_39_5 : tI t38 39 5 = tI t 39 5 := by rw [ht38, tI_uI, if_neg (by decide)]
        have kf38_39_7 : tI t38 39 7 = tI t 39 7 := by rw [ht38, tI_uI, if_neg (by decide)]
        have kf38_39_8 : tI t38 39 8 = tI t 39 8 := by rw [ht38, tI_uI, if_neg (by decide)]
        have kf38_39_9 : tI t38 39 9 = tI t 39 9 := by rw [ht38, tI_uI, if_neg (by decide)]
        have kf38_37_1 : tI t38 37 1 = tI t 37 1 := by rw [ht38, tI_uI, if_neg (by decide)]
        have fr38 := fr.uI ht38 (by simp)
        have lt : LTp t38 := by
          intro h9
          rw [ht38, tA_uI, tI_uI, if_neg (by decide)]
          exact lt (by omega)
        refine w_goto ?_
        refine w_step rfl ?_
        refine w_retV ?_
        exact ⟨ok38, fr38, (by omega), (by omega), (by omega), (by omega), (by omega), (by omega), lt⟩
      refine w_aload rfl ?_
      refine w_push kc_1 ?_
      refine w_aload rfl ?_
      refine w_callV0I (oj_39 _).choose_spec rfl (c_X1_nameAtHand ok (by omega) (lt (by omega)).1 (lt (by omega)).2 q6) ?_
      rintro z39 t39 ⟨rfl, hp39_0, hp39_1, hp39_2⟩
      refine w_callV2V (oj_39 _).choose_spec rfl (c_X1_emit ok (by omega) (by omega) (by omega) (by omega)) ?_
      rintro t40 ⟨ok40, fq40, hp40_0, hp40_1⟩
      have fr40 := fr.then fq40 (by simp)
      have kf40_39_0 : tI t40 39 0 = tI t 39 0 := fq40.1 39 0 (by simp)
      have kf40_39_5 : tI t40 39 5 = tI t 39 5 := fq40.1 39 5 (by simp)
      have kf40_39_7 : tI t40 39 7 = tI t 39 7 := fq40.1 39 7 (by simp)
      have kf40_39_8 : tI t40 39 8 = tI t 39 8 := fq40.1 39 8 (by simp)
      have kf40_39_9 : tI t40 39 9 = tI t 39 9 := fq40.1 39 9 (by simp)
      have kf40_37_1 : tI t40 37 1 = tI t 37 1 := fq40.1 37 1 (by simp)
      refine w_aload rfl ?_
      refine w_dupR ?_
      refine w_getI (g_39_5 _) fe_39_5 ok40 (fun z41 hz41 hl41 hh41 => ?_)
      refine w_push kc_1 ?_
      refine w_add ?_
      refine w_putI (p_39_5 _) fe_39_5 ok40 (by omega) (fun t42 ht42 ok42 => ?_)
      have kf42_39_0 : tI t42 39 0 = tI t40 39 0 := by rw [ht42, tI_uI, if_neg (by decide)]
      have kf42_39_4 : tI t42 39 4 = tI t40 39 4 := by rw [ht42, tI_uI, if_neg (by decide)]
      have kf42_39_5 : tI t42 39 5 = (z41 + 1) := by rw [ht42, tI_uI, if_pos ⟨rfl, rfl⟩]
      have kf42_39_7 : tI t42 39 7 = tI t40 39 7 := by rw [ht42, tI_uI, if_neg (by decide)]
      have kf42_39_8 : tI t42 39 8 = tI t40 39 8 := by rw [ht42, tI_uI, if_neg (by decide)]
      have kf42_39_9 : tI t42 39 9 = tI t40 39 9 := by rw [ht42, tI_uI, if_neg (by decide)]
      have kf42_37_1 : tI t42 37 1 = tI t40 37 1 := by rw [ht42, tI_uI, if_neg (by decide)]
      have fr42 := fr40.uI ht42 (by simp)
      refine w_aload rfl ?_
      refine w_callV0V (oj_39 _).choose_spec rfl (c_X1_step ok42 (by omega)) ?_
      rintro t43 ⟨ok43, fq43, hp43_0, hp43_1, hp43_2, hp43_3, hp43_4⟩
      have fr43 := fr42.then fq43 (by simp)
      have kf43_39_0 : tI t43 39 0 = tI t42 39 0 := fq43.1 39 0 (by simp)
      have kf43_39_4 : tI t43 39 4 = tI t42 39 4 := fq43.1 39 4 (by simp)
      have kf43_39_5 : tI t43 39 5 = tI t42 39 5 := fq43.1 39 5 (by simp)
      have kf43_37_1 : tI t43 37 1 = tI t42 37 1 := fq43.1 37 1 (by simp)
      have lt := hp43_4
      refine w_goto ?_
      refine w_step rfl ?_
      refine w_retV ?_
      exact ⟨ok43, fr43, (by omega), (by omega), (by omega), (by omega), (by omega), (by omega), lt⟩
    refine w_aload rfl ?_
    refine w_push kc_0 ?_
    refine w_aload rfl ?_
    refine w_callV0I (oj_39 _).choose_spec rfl (c_X1_numberAtHand ok (by omega)) ?_
    rintro z44 t44 ⟨rfl, hp44_0, hp44_1⟩
    refine w_callV2V (oj_39 _).choose_spec rfl (c_X1_emit ok (by omega) (by omega) (by omega) (by omega)) ?_
    rintro t45 ⟨ok45, fq45, hp45_0, hp45_1⟩
    have fr45 := fr.then fq45 (by simp)
    have kf45_39_0 : tI t45 39 0 = tI t 39 0 := fq45.1 39 0 (by simp)
    have kf45_39_5 : tI t45 39 5 = tI t 39 5 := fq45.1 39 5 (by simp)
    have kf45_39_7 : tI t45 39 7 = tI t 39 7 := fq45.1 39 7 (by simp)
    have kf45_39_8 : tI t45 39 8 = tI t 39 8 := fq45.1 39 8 (by simp)
    have kf45_39_9 : tI t45 39 9 = tI t 39 9 := fq45.1 39 9 (by simp)
    have kf45_37_1 : tI t45 37 1 = tI t 37 1 := fq45.1 37 1 (by simp)
    refine w_aload rfl ?_
    refine w_dupR ?_
    refine w_getI (g_39_5 _) fe_39_5 ok45 (fun z46 hz46 hl46 hh46 => ?_)
    refine w_push kc_1 ?_
    refine w_add ?_
    refine w_putI (p_39_5 _) fe_39_5 ok45 (by omega) (fun t47 ht47 ok47 => ?_)
    have kf47_39_0 : tI t47 39 0 = tI t45 39 0 := by rw [ht47, tI_uI, if_neg (by decide)]
    have kf47_39_4 : tI t47 39 4 = tI t45 39 4 := by rw [ht47, tI_uI, if_neg (by decide)]
    have kf47_39_5 : tI t47 39 5 = (z46 + 1) := by rw [ht47, tI_uI, if_pos ⟨rfl, rfl⟩]
    have kf47_39_7 : tI t47 39 7 = tI t45 39 7 := by rw [ht47, tI_uI, if_neg (by decide)]
    have kf47_39_8 : tI t47 39 8 = tI t45 39 8 := by rw [ht47, tI_uI, if_neg (by decide)]
    have kf47_39_9 : tI t47 39 9 = tI t45 39 9 := by rw [ht47, tI_uI, if_neg (by decide)]
    have kf47_37_1 : tI t47 37 1 = tI t45 37 1 := by rw [ht47, tI_uI, if_neg (by decide)]
    have fr47 := fr45.uI ht47 (by simp)
    refine w_aload rfl ?_
    refine w_callV0V (oj_39 _).choose_spec rfl (c_X1_step ok47 (by omega)) ?_
    rintro t48 ⟨ok48, fq48, hp48_0, hp48_1, hp48_2, hp48_3, hp48_4⟩
    have fr48 := fr47.then fq48 (by simp)
    have kf48_39_0 : tI t48 39 0 = tI t47 39 0 := fq48.1 39 0 (by simp)
    have kf48_39_4 : tI t48 39 4 = tI t47 39 4 := fq48.1 39 4 (by simp)
    have kf48_39_5 : tI t48 39 5 = tI t47 39 5 := fq48.1 39 5 (by simp)
    have kf48_37_1 : tI t48 37 1 = tI t47 37 1 := fq48.1 37 1 (by simp)
    have lt := hp48_4
    refine w_goto ?_
    refine w_step rfl ?_
    refine w_retV ?_
    exact ⟨ok48, fr48, (by omega), (by omega), (by omega), (by omega), (by omega), (by omega), lt⟩
  refine w_aload rfl ?_
  refine w_aload rfl ?_
  refine w_getI (g_39_8 _) fe_39_8 ok (fun z49 hz49 hl49 hh49 => ?_)
  refine w_putI (p_39_0 _) fe_39_0 ok (by omega) (fun t50 ht50 ok50 => ?_)
  have kf50_39_0 : tI t50 39 0 = z49 := by rw [ht50, tI_uI, if_pos ⟨rfl, rfl⟩]
  have kf50_39_4 : tI t50 39 4 = tI t 39 4 := by rw [ht50, tI_uI, if_neg (by decide)]
  have kf50_39_5 : tI t50 39 5 = tI t 39 5 := by rw [ht50, tI_uI, if_neg (by decide)]
  have kf50_39_7 : tI t50 39 7 = tI t 39 7 := by rw [ht50, tI_uI, if_neg (by decide)]
  have kf50_39_8 : tI t50 39 8 = tI t 39 8 := by rw [ht50, tI_uI, if_neg (by decide)]
  have kf50_39_9 : tI t50 39 9 = tI t 39 9 := by rw [ht50, tI_uI, if_neg (by decide)]
  have kf50_37_1 : tI t50 37 1 = tI t 37 1 := by rw [ht50, tI_uI, if_neg (by decide)]
  have fr50 := fr.uI ht50 (by simp)
  have lt : LTp t50 := by
    intro h9
    rw [ht50, tA_uI, tI_uI, if_neg (by decide)]
    exact lt (by omega)
  refine w_goto ?_
  refine w_step rfl ?_
  refine w_retV ?_
  exact ⟨ok50, fr50, (by omega), (by omega), (by omega), (by omega), (by omega), (by omega), lt⟩
set_option maxRecDepth 100000 in
set_option maxHeartbeats 4000000 in
theorem c_X1_wordIs_3 {d : Nat} {t : TS}  (ok : OK t) (q0 : tI t 39 9 ≤ tI t 37 1) : CI (EX FU (d + 7)) 8 [.ref 39, .ref (1000000 + 3)] (mk t) (fun z t' => t = t' ∧ (0 ≤ z) ∧ (z ≤ 1) ∧ (z = 0 ∨ (tI t 39 7 = 1 ∧ tI t 39 9 - tI t 39 8 = 4))) := by
  refine CI_ent (d := d + 6) (Bk := bX1_wordIs) (nL := 3) rfl rfl rfl (Nat.le_of_ble_eq_true rfl) ?_
  show Rn _ 1000000 0 [some (.ref 39), some (.ref (1000000 + 3)), none] [] _ _
  have r37 := ok.f fe_37_1
  have r8 := ok.f fe_39_8
  refine w_step rfl ?_
  refine w_aload rfl ?_
  refine w_getI (g_39_7 _) fe_39_7 ok (fun z1 hz1 hl1 hh1 => ?_)
  refine w_push kc_1 ?_
  refine w_cne (by omega) (fun h2 => ?_) (fun h2 => ?_)
  · skip
    refine w_step rfl ?_
    refine w_push kc_0 ?_
    refine w_retI rfl ?_
    exact ⟨rfl, (by omega), (by omega), (by omega)⟩
  refine w_aload rfl ?_
  refine w_getI (g_39_9 _) fe_39_9 ok (fun z3 hz3 hl3 hh3 => ?_)
  refine w_aload rfl ?_
  refine w_getI (g_39_8 _) fe_39_8 ok (fun z4 hz4 hl4 hh4 => ?_)
  refine w_sub ?_
  refine w_aload rfl ?_
  refine w_callX0I rfl rfl (c_len3 _) ?_
  rintro z5 t5 ⟨rfl, rfl⟩
  refine w_ceq (by omega) (fun h6 => ?_) (fun h6 => ?_)
  · skip
    refine w_step rfl ?_
    refine w_push kc_0 ?_
    refine w_istore (lv' := [some (.ref 39), some (.ref (1000000 + 3)), some (.int (jI 0))]) rfl ?_
    refine w_goto ?_
    have key3 : ∀ (n3 M3 : Nat) (i : Int), (0 ≤ i) → (i ≤ 4) → 4 - i < (n3 : Int) → 60 * n3 + (1000) ≤ M3 → Rn (bX1_wordIs (EX FU (d + 6))) M3 3 [some (.ref 39), some (.ref (1000000 + 3)), some (.int (jI i))] [] (mk t) (PI (fun z t' => t = t' ∧ (0 ≤ z) ∧ (z ≤ 1) ∧ (z = 0 ∨ (tI t 39 7 = 1 ∧ tI t 39 9 - tI t 39 8 = 4)))) := by
      intro n3
      induction n3 with
      | zero => intro M3 i i3_0 i3_1 v3 f3; exfalso; omega
      | succ n3 ih3 =>
        intro M3 i i3_0 i3_1 v3 f3
        obtain ⟨M3, rfl⟩ : ∃ m, M3 = m + 60 := ⟨M3 - 60, by omega⟩
        refine w_step rfl ?_
        refine w_iload rfl ?_
        refine w_aload rfl ?_
        refine w_callX0I rfl rfl (c_len3 _) ?_
        rintro z7 t7 ⟨rfl, rfl⟩
        refine w_cge (by omega) (fun h8 => ?_) (fun h8 => ?_)
        · skip
          refine w_step rfl ?_
          refine w_push kc_1 ?_
          refine w_retI rfl ?_
          exact ⟨rfl, (by omega), (by omega), (by omega)⟩
        refine w_aload rfl ?_
        refine w_getR (g_39_1 _) ?_
        refine w_getR (g_37_0 _) ?_
        refine w_aload rfl ?_
        refine w_getI (g_39_8 _) fe_39_8 ok (fun z9 hz9 hl9 hh9 => ?_)
        refine w_iload rfl ?_
        refine w_add ?_
        refine w_iald (i := ((z9 + i)).toNat) (ai_38 _) (by omega) (by omega) (ae_38 _) ok (fun z10 hz10 hl10 hh10 => ?_)
        refine w_aload rfl ?_
        refine w_iload rfl ?_
        refine w_callX1I rfl rfl (c_chN3 _ (by omega)) ?_
        rintro z11 t11 ⟨rfl, hp11_0, hp11_1⟩
        refine w_ceq (by omega) (fun h12 => ?_) (fun h12 => ?_)
        · skip
          refine w_step rfl ?_
          refine w_iinc (lv' := [some (.ref 39), some (.ref (1000000 + 3)), some (.int (jI (i + 1)))]) kc_1 rfl rfl ?_
          refine w_goto ?_
          exact ih3 _ (i + 1)  (by omega) (by omega) (by omega) (by omega)
        refine w_push kc_0 ?_
        refine w_retI rfl ?_
        exact ⟨rfl, (by omega), (by omega), (by omega)⟩
    exact key3 5 _ 0  (by omega) (by omega) (by omega) (by omega)
  refine w_goto ?_
  refine w_step rfl ?_
  refine w_push kc_0 ?_
  refine w_retI rfl ?_
  exact ⟨rfl, (by omega), (by omega), (by omega)⟩
set_option maxRecDepth 100000 in
set_option maxHeartbeats 4000000 in
theorem c_X1_wordIs_4 {d : Nat} {t : TS}  (ok : OK t) (q0 : tI t 39 9 ≤ tI t 37 1) : CI (EX FU (d + 7)) 8 [.ref 39, .ref (1000000 + 4)] (mk t) (fun z t' => t = t' ∧ (0 ≤ z) ∧ (z ≤ 1) ∧ (z = 0 ∨ (tI t 39 7 = 1 ∧ tI t 39 9 - tI t 39 8 = 3))) := by
  refine CI_ent (d := d + 6) (Bk := bX1_wordIs) (nL := 3) rfl rfl rfl (Nat.le_of_ble_eq_true rfl) ?_
  show Rn _ 1000000 0 [some (.ref 39), some (.ref (1000000 + 4)), none] [] _ _
  have r37 := ok.f fe_37_1
  have r8 := ok.f fe_39_8
  refine w_step rfl ?_
  refine w_aload rfl ?_
  refine w_getI (g_39_7 _) fe_39_7 ok (fun z1 hz1 hl1 hh1 => ?_)
  refine w_push kc_1 ?_
  refine w_cne (by omega) (fun h2 => ?_) (fun h2 => ?_)
  · skip
    refine w_step rfl ?_
    refine w_push kc_0 ?_
    refine w_retI rfl ?_
    exact ⟨rfl, (by omega), (by omega), (by omega)⟩
  refine w_aload rfl ?_
  refine w_getI (g_39_9 _) fe_39_9 ok (fun z3 hz3 hl3 hh3 => ?_)
  refine w_aload rfl ?_
  refine w_getI (g_39_8 _) fe_39_8 ok (fun z4 hz4 hl4 hh4 => ?_)
  refine w_sub ?_
  refine w_aload rfl ?_
  refine w_callX0I rfl rfl (c_len4 _) ?_
  rintro z5 t5 ⟨rfl, rfl⟩
  refine w_ceq (by omega) (fun h6 => ?_) (fun h6 => ?_)
  · skip
    refine w_step rfl ?_
    refine w_push kc_0 ?_
    refine w_istore (lv' := [some (.ref 39), some (.ref (1000000 + 4)), some (.int (jI 0))]) rfl ?_
    refine w_goto ?_
    have key3 : ∀ (n3 M3 : Nat) (i : Int), (0 ≤ i) → (i ≤ 4) → 4 - i < (n3 : Int) → 60 * n3 + (1000) ≤ M3 → Rn (bX1_wordIs (EX FU (d + 6))) M3 3 [some (.ref 39), some (.ref (1000000 + 4)), some (.int (jI i))] [] (mk t) (PI (fun z t' => t = t' ∧ (0 ≤ z) ∧ (z ≤ 1) ∧ (z = 0 ∨ (tI t 39 7 = 1 ∧ tI t 39 9 - tI t 39 8 = 3)))) := by
      intro n3
      induction n3 with
      | zero => intro M3 i i3_0 i3_1 v3 f3; exfalso; omega
      | succ n3 ih3 =>
        intro M3 i i3_0 i3_1 v3 f3
        obtain ⟨M3, rfl⟩ : ∃ m, M3 = m + 60 := ⟨M3 - 60, by omega⟩
        refine w_step rfl ?_
        refine w_iload rfl ?_
        refine w_aload rfl ?_
        refine w_callX0I rfl rfl (c_len4 _) ?_
        rintro z7 t7 ⟨rfl, rfl⟩
        refine w_cge (by omega) (fun h8 => ?_) (fun h8 => ?_)
        · skip
          refine w_step rfl ?_
          refine w_push kc_1 ?_
          refine w_retI rfl ?_
          exact ⟨rfl, (by omega), (by omega), (by omega)⟩
        refine w_aload rfl ?_
        refine w_getR (g_39_1 _) ?_
        refine w_getR (g_37_0 _) ?_
        refine w_aload rfl ?_
        refine w_getI (g_39_8 _) fe_39_8 ok (fun z9 hz9 hl9 hh9 => ?_)
        refine w_iload rfl ?_
        refine w_add ?_
        refine w_iald (i := ((z9 + i)).toNat) (ai_38 _) (by omega) (by omega) (ae_38 _) ok (fun z10 hz10 hl10 hh10 => ?_)
        refine w_aload rfl ?_
        refine w_iload rfl ?_
        refine w_callX1I rfl rfl (c_chN4 _ (by omega)) ?_
        rintro z11 t11 ⟨rfl, hp11_0, hp11_1⟩
        refine w_ceq (by omega) (fun h12 => ?_) (fun h12 => ?_)
        · skip
          refine w_step rfl ?_
          refine w_iinc (lv' := [some (.ref 39), some (.ref (1000000 + 4)), some (.int (jI (i + 1)))]) kc_1 rfl rfl ?_
          refine w_goto ?_
          exact ih3 _ (i + 1)  (by omega) (by omega) (by omega) (by omega)
        refine w_push kc_0 ?_
        refine w_retI rfl ?_
        exact ⟨rfl, (by omega), (by omega), (by omega)⟩
    exact key3 5 _ 0  (by omega) (by omega) (by omega) (by omega)
  refine w_goto ?_
  refine w_step rfl ?_
  refine w_push kc_0 ?_
  refine w_retI rfl ?_
  exact ⟨rfl, (by omega), (by omega), (by omega)⟩
set_option maxRecDepth 100000 in
set_option maxHeartbeats 4000000 in
theorem c_X1_wordIs_5 {d : Nat} {t : TS}  (ok : OK t) (q0 : tI t 39 9 ≤ tI t 37 1) : CI (EX FU (d + 7)) 8 [.ref 39, .ref (1000000 + 5)] (mk t) (fun z t' => t = t' ∧ (0 ≤ z) ∧ (z ≤ 1) ∧ (z = 0 ∨ (tI t 39 7 = 1 ∧ tI t 39 9 - tI t 39 8 = 4))) := by
  refine CI_ent (d := d + 6) (Bk := bX1_wordIs) (nL := 3) rfl rfl rfl (Nat.le_of_ble_eq_true rfl) ?_
  show Rn _ 1000000 0 [some (.ref 39), some (.ref (1000000 + 5)), none] [] _ _
  have r37 := ok.f fe_37_1
  have r8 := ok.f fe_39_8
  refine w_step rfl ?_
  refine w_aload rfl ?_
  refine w_getI (g_39_7 _) fe_39_7 ok (fun z1 hz1 hl1 hh1 => ?_)
  refine w_push kc_1 ?_
  refine w_cne (by omega) (fun h2 => ?_) (fun h2 => ?_)
  · skip
    refine w_step rfl ?_
    refine w_push kc_0 ?_
    refine w_retI rfl ?_
    exact ⟨rfl, (by omega), (by omega), (by omega)⟩
  refine w_aload rfl ?_
  refine w_getI (g_39_9 _) fe_39_9 ok (fun z3 hz3 hl3 hh3 => ?_)
  refine w_aload rfl ?_
  refine w_getI (g_39_8 _) fe_39_8 ok (fun z4 hz4 hl4 hh4 => ?_)
  refine w_sub ?_
  refine w_aload rfl ?_
  refine w_callX0I rfl rfl (c_len5 _) ?_
  rintro z5 t5 ⟨rfl, rfl⟩
  refine w_ceq (by omega) (fun h6 => ?_) (fun h6 => ?_)
  · skip
    refine w_step rfl ?_
    refine w_push kc_0 ?_
    refine w_istore (lv' := [some (.ref 39), some (.ref (1000000 + 5)), some (.int (jI 0))]) rfl ?_
    refine w_goto ?_
    have key3 : ∀ (n3 M3 : Nat) (i : Int), (0 ≤ i) → (i ≤ 4) → 4 - i < (n3 : Int) → 60 * n3 + (1000) ≤ M3 → Rn (bX1_wordIs (EX FU (d + 6))) M3 3 [some (.ref 39), some (.ref (1000000 + 5)), some (.int (jI i))] [] (mk t) (PI (fun z t' => t = t' ∧ (0 ≤ z) ∧ (z ≤ 1) ∧ (z = 0 ∨ (tI t 39 7 = 1 ∧ tI t 39 9 - tI t 39 8 = 4)))) := by
      intro n3
      induction n3 with
      | zero => intro M3 i i3_0 i3_1 v3 f3; exfalso; omega
      | succ n3 ih3 =>
        intro M3 i i3_0 i3_1 v3 f3
        obtain ⟨M3, rfl⟩ : ∃ m, M3 = m + 60 := ⟨M3 - 60, by omega⟩
        refine w_step rfl ?_
        refine w_iload rfl ?_
        refine w_aload rfl ?_
        refine w_callX0I rfl rfl (c_len5 _) ?_
        rintro z7 t7 ⟨rfl, rfl⟩
        refine w_cge (by omega) (fun h8 => ?_) (fun h8 => ?_)
        · skip
          refine w_step rfl ?_
          refine w_push kc_1 ?_
          refine w_retI rfl ?_
          exact ⟨rfl, (by omega), (by omega), (by omega)⟩
        refine w_aload rfl ?_
        refine w_getR (g_39_1 _) ?_
        refine w_getR (g_37_0 _) ?_
        refine w_aload rfl ?_
        refine w_getI (g_39_8 _) fe_39_8 ok (fun z9 hz9 hl9 hh9 => ?_)
        refine w_iload rfl ?_
        refine w_add ?_
        refine w_iald (i := ((z9 + i)).toNat) (ai_38 _) (by omega) (by omega) (ae_38 _) ok (fun z10 hz10 hl10 hh10 => ?_)
        refine w_aload rfl ?_
        refine w_iload rfl ?_
        refine w_callX1I rfl rfl (c_chN5 _ (by omega)) ?_
        rintro z11 t11 ⟨rfl, hp11_0, hp11_1⟩
        refine w_ceq (by omega) (fun h12 => ?_) (fun h12 => ?_)
        · skip
          refine w_step rfl ?_
          refine w_iinc (lv' := [some (.ref 39), some (.ref (1000000 + 5)), some (.int (jI (i + 1)))]) kc_1 rfl rfl ?_
          refine w_goto ?_
          exact ih3 _ (i + 1)  (by omega) (by omega) (by omega) (by omega)
        refine w_push kc_0 ?_
        refine w_retI rfl ?_
        exact ⟨rfl, (by omega), (by omega), (by omega)⟩
    exact key3 5 _ 0  (by omega) (by omega) (by omega) (by omega)
  refine w_goto ?_
  refine w_step rfl ?_
  refine w_push kc_0 ?_
  refine w_retI rfl ?_
  exact ⟨rfl, (by omega), (by omega), (by omega)⟩
set_option maxRecDepth 100000 in
set_option maxHeartbeats 4000000 in
theorem c_X1_keyAtHand {d : Nat} {t : TS}  (ok : OK t) (q0 : tI t 39 9 ≤ tI t 37 1) : CI (EX FU (d + 8)) 7 [.ref 39] (mk t) (fun z t' => t = t' ∧ (-1 ≤ z) ∧ (z ≤ 2) ∧ (z = -1 ∨ (tI t 39 7 = 1 ∧ 3 ≤ tI t 39 9 - tI t 39 8))) := by
  refine CI_ent (d := d + 7) (Bk := bX1_keyAtHand) (nL := 1) rfl rfl rfl (Nat.le_of_ble_eq_true rfl) ?_
  show Rn _ 1000000 0 [some (.ref 39)] [] _ _
  refine w_step rfl ?_
  refine w_aload rfl ?_
  refine w_pushV ?_
  refine w_callV1I (oj_39 _).choose_spec rfl (c_X1_wordIs_3 ok (by omega)) ?_
  rintro z1 t1 ⟨rfl, hp1_0, hp1_1, hp1_2⟩
  refine w_ieq (by omega) (fun h2 => ?_) (fun h2 => ?_)
  · skip
    refine w_step rfl ?_
    refine w_aload rfl ?_
    refine w_pushV ?_
    refine w_callV1I (oj_39 _).choose_spec rfl (c_X1_wordIs_4 ok (by omega)) ?_
    rintro z3 t3 ⟨rfl, hp3_0, hp3_1, hp3_2⟩
    refine w_ieq (by omega) (fun h4 => ?_) (fun h4 => ?_)
    · skip
      refine w_step rfl ?_
      refine w_aload rfl ?_
      refine w_pushV ?_
      refine w_callV1I (oj_39 _).choose_spec rfl (c_X1_wordIs_5 ok (by omega)) ?_
      rintro z5 t5 ⟨rfl, hp5_0, hp5_1, hp5_2⟩
      refine w_ieq (by omega) (fun h6 => ?_) (fun h6 => ?_)
      · skip
        refine w_step rfl ?_
        refine w_push kc_m1 ?_
        refine w_goto ?_
        refine w_step rfl ?_
        refine w_retI rfl ?_
        exact ⟨rfl, (by omega), (by omega), (by omega)⟩
      refine w_push kc_2 ?_
      refine w_goto ?_
      refine w_step rfl ?_
      refine w_retI rfl ?_
      exact ⟨rfl, (by omega), (by omega), (by omega)⟩
    refine w_push kc_1 ?_
    refine w_retI rfl ?_
    exact ⟨rfl, (by omega), (by omega), (by omega)⟩
  refine w_push kc_0 ?_
  refine w_retI rfl ?_
  exact ⟨rfl, (by omega), (by omega), (by omega)⟩
