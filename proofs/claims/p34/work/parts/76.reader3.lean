def HPs (m : Nat) : Prop := ∀ (d : Nat)  ⦃t : TS⦄ ⦃o n : Int⦄  (ok : OK t) (q0 : tI t 39 9 ≤ tI t 37 1) (q1 : tI t 39 8 ≤ tI t 39 9) (q2 : tI t 39 7 ≤ 3 * (tI t 39 9 - tI t 39 8)) (q3 : tI t 39 4 + 3 ≤ tI t 39 8) (q4 : tI t 39 5 + 3 ≤ tI t 39 8) (q5 : LTp t) (q6 : tN t = 1000006 ∨ tN t = 1000007 ∨ tN t = 1000008) (q7 : 0 ≤ o) (q8 : o ≤ 8) (q9 : 0 ≤ n) (q10 : n ≤ 8) (q11 : 7 * (8 - o) + (8 - n) < (m : Int)), CV (EX FU (d + m + 13)) 14 [.ref 39, .int (jI o), .int (jI n)] (mk t) (fun t' => OK t' ∧ Fr [(39, 0), (39, 4), (39, 5), (39, 7), (39, 8), (39, 9), (39, 10), (40, 100), (41, 100)] t t' ∧ (tI t' 39 9 ≤ tI t 37 1) ∧ (tI t' 39 8 ≤ tI t' 39 9) ∧ (tI t' 39 7 ≤ 3 * (tI t' 39 9 - tI t' 39 8)) ∧ (tI t' 39 4 + tI t 39 8 ≤ tI t 39 4 + tI t' 39 8) ∧ (tI t' 39 5 + tI t 39 8 ≤ tI t 39 5 + tI t' 39 8) ∧ (tI t 39 8 ≤ tI t' 39 8) ∧ (LTp t'))
def HLs (m : Nat) : Prop := ∀ (d : Nat)  ⦃t : TS⦄ ⦃l o n : Int⦄  (ok : OK t) (q0 : tI t 39 9 ≤ tI t 37 1) (q1 : tI t 39 8 ≤ tI t 39 9) (q2 : tI t 39 7 ≤ 3 * (tI t 39 9 - tI t 39 8)) (q3 : tI t 39 4 + 3 ≤ tI t 39 8) (q4 : tI t 39 5 + 3 ≤ tI t 39 8) (q5 : LTp t) (q6 : tN t = 1000006 ∨ tN t = 1000007 ∨ tN t = 1000008) (q7 : 0 ≤ l) (q8 : l ≤ 5) (q9 : 0 ≤ o) (q10 : o ≤ 8) (q11 : 0 ≤ n) (q12 : n ≤ 8) (q13 : 7 * (8 - o) + (8 - n) + (6 - l) < (m : Int)), CV (EX FU (d + m + 13)) 12 [.ref 39, .int (jI l), .int (jI o), .int (jI n)] (mk t) (fun t' => OK t' ∧ Fr [(39, 0), (39, 4), (39, 5), (39, 7), (39, 8), (39, 9), (39, 10), (40, 100), (41, 100)] t t' ∧ (tI t' 39 9 ≤ tI t 37 1) ∧ (tI t' 39 8 ≤ tI t' 39 9) ∧ (tI t' 39 7 ≤ 3 * (tI t' 39 9 - tI t' 39 8)) ∧ (tI t' 39 4 + tI t 39 8 ≤ tI t 39 4 + tI t' 39 8) ∧ (tI t' 39 5 + tI t 39 8 ≤ tI t 39 5 + tI t' 39 8) ∧ (tI t 39 8 ≤ tI t' 39 8) ∧ (LTp t'))
set_option maxRecDepth 100000 in
set_option maxHeartbeats 4000000 in
theorem c_X1_readPiece_b {d : Nat} {t : TS} {o n : Int} {m : Nat} (hP : HPs m) (hL : HLs m) (ok : OK t) (q0 : tI t 39 9 ≤ tI t 37 1) (q1 : tI t 39 8 ≤ tI t 39 9) (q2 : tI t 39 7 ≤ 3 * (tI t 39 9 - tI t 39 8)) (q3 : tI t 39 4 + 3 ≤ tI t 39 8) (q4 : tI t 39 5 + 3 ≤ tI t 39 8) (q5 : LTp t) (q6 : tN t = 1000006 ∨ tN t = 1000007 ∨ tN t = 1000008) (q7 : 0 ≤ o) (q8 : o ≤ 8) (q9 : 0 ≤ n) (q10 : n ≤ 8) (q11 : 7 * (8 - o) + (8 - n) < (m : Int) + 1) : CV (EX FU (d + m + 14)) 14 [.ref 39, .int (jI o), .int (jI n)] (mk t) (fun t' => OK t' ∧ Fr [(39, 0), (39, 4), (39, 5), (39, 7), (39, 8), (39, 9), (39, 10), (40, 100), (41, 100)] t t' ∧ (tI t' 39 9 ≤ tI t 37 1) ∧ (tI t' 39 8 ≤ tI t' 39 9) ∧ (tI t' 39 7 ≤ 3 * (tI t' 39 9 - tI t' 39 8)) ∧ (tI t' 39 4 + tI t 39 8 ≤ tI t 39 4 + tI t' 39 8) ∧ (tI t' 39 5 + tI t 39 8 ≤ tI t 39 5 + tI t' 39 8) ∧ (tI t 39 8 ≤ tI t' 39 8) ∧ (LTp t')) := by
  refine CV_ent (d := d + m + 13) (Bk := bX1_readPiece) (nL := 4) rfl rfl rfl (Nat.le_of_ble_eq_true rfl) ?_
  show Rn _ 1000000 0 [some (.ref 39), some (.int (jI o)), some (.int (jI n)), none] [] _ _
  have fr : Fr [(39, 0), (39, 4), (39, 5), (39, 7), (39, 8), (39, 9), (39, 10), (40, 100), (41, 100)] t t := Fr.rf _ _
  have lt := q5
  have r37 := ok.f fe_37_1
  refine w_step rfl ?_
  refine w_aload rfl ?_
  refine w_callV0I (oj_39 _).choose_spec rfl (c_X1_signAtHand ok) ?_
  rintro z1 t1 ⟨rfl, hp1_0, hp1_1, hp1_2⟩
  refine w_istore (lv' := [some (.ref 39), some (.int (jI o)), some (.int (jI n)), some (.int (jI z1))]) rfl ?_
  refine w_iload rfl ?_
  refine w_push kc_33 ?_
  refine w_cne (by omega) (fun h2 => ?_) (fun h2 => ?_)
  · skip
    refine w_step rfl ?_
    refine w_iload rfl ?_
    refine w_push kc_40 ?_
    refine w_cne (by omega) (fun h3 => ?_) (fun h3 => ?_)
    · skip
      refine w_step rfl ?_
      refine w_aload rfl ?_
      refine w_callV0V (oj_39 _).choose_spec rfl (c_X1_readOperand ok (by omega) (by omega) (by omega) (by omega) (by omega) lt q6) ?_
      rintro t4 ⟨ok4, fq4, hp4_0, hp4_1, hp4_2, hp4_3, hp4_4, hp4_5, hp4_6⟩
      have fr4 := fr.then fq4 (by simp)
      have kf4_37_1 : tI t4 37 1 = tI t 37 1 := fq4.1 37 1 (by simp)
      have lt := hp4_6
      refine w_goto ?_
      refine w_step rfl ?_
      refine w_retV ?_
      exact ⟨ok4, fr4, (by omega), (by omega), (by omega), (by omega), (by omega), (by omega), lt⟩
    refine w_iload rfl ?_
    refine w_push kc_8 ?_
    refine w_cge (by omega) (fun h5 => ?_) (fun h5 => ?_)
    · skip
      refine w_step rfl ?_
      refine w_aload rfl ?_
      refine w_callV0V (oj_39 _).choose_spec rfl (c_X1_readOperand ok (by omega) (by omega) (by omega) (by omega) (by omega) lt q6) ?_
      rintro t6 ⟨ok6, fq6, hp6_0, hp6_1, hp6_2, hp6_3, hp6_4, hp6_5, hp6_6⟩
      have fr6 := fr.then fq6 (by simp)
      have kf6_37_1 : tI t6 37 1 = tI t 37 1 := fq6.1 37 1 (by simp)
      have lt := hp6_6
      refine w_goto ?_
      refine w_step rfl ?_
      refine w_retV ?_
      exact ⟨ok6, fr6, (by omega), (by omega), (by omega), (by omega), (by omega), (by omega), lt⟩
    refine w_aload rfl ?_
    refine w_callV0V (oj_39 _).choose_spec rfl (c_X1_step ok (by omega)) ?_
    rintro t7 ⟨ok7, fq7, hp7_0, hp7_1, hp7_2, hp7_3, hp7_4⟩
    have fr7 := fr.then fq7 (by simp)
    have kf7_39_0 : tI t7 39 0 = tI t 39 0 := fq7.1 39 0 (by simp)
    have kf7_39_4 : tI t7 39 4 = tI t 39 4 := fq7.1 39 4 (by simp)
    have kf7_39_5 : tI t7 39 5 = tI t 39 5 := fq7.1 39 5 (by simp)
    have kf7_37_1 : tI t7 37 1 = tI t 37 1 := fq7.1 37 1 (by simp)
    have lt := hp7_4
    have nm7 : tN t7 = 1000006 ∨ tN t7 = 1000007 ∨ tN t7 = 1000008 := by rw [fq7.2.2.2.1 (by simp)]; exact q6
    refine w_aload rfl ?_
    refine w_push kc_0 ?_
    refine w_iload rfl ?_
    refine w_push kc_1 ?_
    refine w_add ?_
    refine w_iload rfl ?_
    refine w_callV3V (oj_39 _).choose_spec rfl (hL _ ok7 (by omega) (by omega) (by omega) (by omega) (by omega) lt nm7 (by omega) (by omega) (by omega) (by omega) (by omega) (by omega) (by omega)) ?_
    rintro t8 ⟨ok8, fq8, hp8_0, hp8_1, hp8_2, hp8_3, hp8_4, hp8_5, hp8_6⟩
    have fr8 := fr7.then fq8 (by simp)
    have kf8_37_1 : tI t8 37 1 = tI t7 37 1 := fq8.1 37 1 (by simp)
    have lt := hp8_6
    have nm8 : tN t8 = 1000006 ∨ tN t8 = 1000007 ∨ tN t8 = 1000008 := by rw [fq8.2.2.2.1 (by simp)]; exact nm7
    refine w_aload rfl ?_
    refine w_callV0V (oj_39 _).choose_spec rfl (c_X1_close ok8 (by omega) (by omega) (by omega) (by omega) (by omega) lt nm8) ?_
    rintro t9 ⟨ok9, fq9, hp9_0, hp9_1, hp9_2, hp9_3, hp9_4, hp9_5, hp9_6⟩
    have fr9 := fr8.then fq9 (by simp)
    have kf9_37_1 : tI t9 37 1 = tI t8 37 1 := fq9.1 37 1 (by simp)
    have lt := hp9_6
    refine w_goto ?_
    refine w_step rfl ?_
    refine w_retV ?_
    exact ⟨ok9, fr9, (by omega), (by omega), (by omega), (by omega), (by omega), (by omega), lt⟩
  refine w_iload rfl ?_
  refine w_push kc_8 ?_
  refine w_cge (by omega) (fun h10 => ?_) (fun h10 => ?_)
  · skip
    refine w_step rfl ?_
    refine w_iload rfl ?_
    refine w_push kc_40 ?_
    refine w_cne (by omega) (fun _ => ?_) (fun h => absurd (by omega) h)
    refine w_step rfl ?_
    refine w_aload rfl ?_
    refine w_callV0V (oj_39 _).choose_spec rfl (c_X1_readOperand ok (by omega) (by omega) (by omega) (by omega) (by omega) lt q6) ?_
    rintro t11 ⟨ok11, fq11, hp11_0, hp11_1, hp11_2, hp11_3, hp11_4, hp11_5, hp11_6⟩
    have fr11 := fr.then fq11 (by simp)
    have kf11_37_1 : tI t11 37 1 = tI t 37 1 := fq11.1 37 1 (by simp)
    have lt := hp11_6
    refine w_goto ?_
    refine w_step rfl ?_
    refine w_retV ?_
    exact ⟨ok11, fr11, (by omega), (by omega), (by omega), (by omega), (by omega), (by omega), lt⟩
  refine w_aload rfl ?_
  refine w_callV0V (oj_39 _).choose_spec rfl (c_X1_step ok (by omega)) ?_
  rintro t12 ⟨ok12, fq12, hp12_0, hp12_1, hp12_2, hp12_3, hp12_4⟩
  have fr12 := fr.then fq12 (by simp)
  have kf12_39_0 : tI t12 39 0 = tI t 39 0 := fq12.1 39 0 (by simp)
  have kf12_39_4 : tI t12 39 4 = tI t 39 4 := fq12.1 39 4 (by simp)
  have kf12_39_5 : tI t12 39 5 = tI t 39 5 := fq12.1 39 5 (by simp)
  have kf12_37_1 : tI t12 37 1 = tI t 37 1 := fq12.1 37 1 (by simp)
  have lt := hp12_4
  have nm12 : tN t12 = 1000006 ∨ tN t12 = 1000007 ∨ tN t12 = 1000008 := by rw [fq12.2.2.2.1 (by simp)]; exact q6
  refine w_aload rfl ?_
  refine w_iload rfl ?_
  refine w_iload rfl ?_
  refine w_push kc_1 ?_
  refine w_add ?_
  refine w_callV2V (oj_39 _).choose_spec rfl (hP _ ok12 (by omega) (by omega) (by omega) (by omega) (by omega) lt nm12 (by omega) (by omega) (by omega) (by omega) (by omega)) ?_
  rintro t13 ⟨ok13, fq13, hp13_0, hp13_1, hp13_2, hp13_3, hp13_4, hp13_5, hp13_6⟩
  have fr13 := fr12.then fq13 (by simp)
  have kf13_37_1 : tI t13 37 1 = tI t12 37 1 := fq13.1 37 1 (by simp)
  have lt := hp13_6
  refine w_aload rfl ?_
  refine w_push kc_33 ?_
  refine w_push kc_0 ?_
  refine w_callV2V (oj_39 _).choose_spec rfl (c_X1_emit ok13 (by omega) (by omega) (by omega) (by omega)) ?_
  rintro t14 ⟨ok14, fq14, hp14_0, hp14_1⟩
  have fr14 := fr13.then fq14 (by simp)
  have kf14_39_0 : tI t14 39 0 = tI t13 39 0 := fq14.1 39 0 (by simp)
  have kf14_39_5 : tI t14 39 5 = tI t13 39 5 := fq14.1 39 5 (by simp)
  have kf14_39_7 : tI t14 39 7 = tI t13 39 7 := fq14.1 39 7 (by simp)
  have kf14_39_8 : tI t14 39 8 = tI t13 39 8 := fq14.1 39 8 (by simp)
  have kf14_39_9 : tI t14 39 9 = tI t13 39 9 := fq14.1 39 9 (by simp)
  have kf14_37_1 : tI t14 37 1 = tI t13 37 1 := fq14.1 37 1 (by simp)
  have lt : LTp t14 := by
    intro h9
    rw [fq14.2.1 38 (by simp), fq14.1 39 8 (by simp)]
    exact lt (by rw [← fq14.1 39 7 (by simp)]; exact h9)
  refine w_goto ?_
  refine w_step rfl ?_
  refine w_retV ?_
  exact ⟨ok14, fr14, (by omega), (by omega), (by omega), (by omega), (by omega), (by omega), lt⟩
set_option maxRecDepth 100000 in
set_option maxHeartbeats 4000000 in
theorem c_X1_readLevel_b_k4 {d : Nat} {t : TS} {l o n : Int} {m : Nat} (hP : HPs m) (hL : HLs m) (ok : OK t) (q0 : tI t 39 9 ≤ tI t 37 1) (q1 : tI t 39 8 ≤ tI t 39 9) (q2 : tI t 39 7 ≤ 3 * (tI t 39 9 - tI t 39 8)) (q3 : tI t 39 4 + 3 ≤ tI t 39 8) (q4 : tI t 39 5 + 3 ≤ tI t 39 8) (q5 : LTp t) (q6 : tN t = 1000006 ∨ tN t = 1000007 ∨ tN t = 1000008) (q7 : 0 ≤ l) (q8 : l ≤ 5) (q9 : 0 ≤ o) (q10 : o ≤ 8) (q11 : 0 ≤ n) (q12 : n ≤ 8) (q13 : 7 * (8 - o) + (8 - n) + (6 - l) < (m : Int) + 1) : ∀ (n4 M4 : Nat) (most : Int) (i : Int) (o6 : Option Int) (t1 : TS), OK t1 → Fr [(39, 0), (39, 4), (39, 5), (39, 7), (39, 8), (39, 9), (39, 10), (40, 100), (41, 100)] t t1 → (0 ≤ i) → (i ≤ 96) → (most ≤ 96 ∧ 0 ≤ most) → (tI t1 37 1 = tI t 37 1) → (tI t1 39 9 ≤ tI t 37 1) → (tI t1 39 8 ≤ tI t1 39 9) → (tI t1 39 7 ≤ 3 * (tI t1 39 9 - tI t1 39 8)) → (tI t1 39 4 + tI t 39 8 ≤ tI t 39 4 + tI t1 39 8) → (tI t1 39 5 + tI t 39 8 ≤ tI t 39 5 + tI t1 39 8) → (tI t 39 8 ≤ tI t1 39 8) → (LTp t1) → (tN t1 = 1000006 ∨ tN t1 = 1000007 ∨ tN t1 = 1000008) → 96 - i < (n4 : Int) → 60 * n4 + (1000) ≤ M4 → Rn (bX1_readLevel (EX FU (d + m + 13))) M4 4 [some (.ref 39), some (.int (jI l)), some (.int (jI o)), some (.int (jI n)), some (.int (jI most)), some (.int (jI i)), dv o6] [] (mk t1) (PV (fun t' => OK t' ∧ Fr [(39, 0), (39, 4), (39, 5), (39, 7), (39, 8), (39, 9), (39, 10), (40, 100), (41, 100)] t t' ∧ (tI t' 39 9 ≤ tI t 37 1) ∧ (tI t' 39 8 ≤ tI t' 39 9) ∧ (tI t' 39 7 ≤ 3 * (tI t' 39 9 - tI t' 39 8)) ∧ (tI t' 39 4 + tI t 39 8 ≤ tI t 39 4 + tI t' 39 8) ∧ (tI t' 39 5 + tI t 39 8 ≤ tI t 39 5 + tI t' 39 8) ∧ (tI t 39 8 ≤ tI t' 39 8) ∧ (LTp t'))) := by
  have lt := q5
  have r37 := ok.f fe_37_1
  intro n4
  induction n4 with
  | zero => intro M4 most i o6 t1 ok1 fr1 i4_0 i4_1 i4_2 i4_3 i4_4 i4_5 i4_6 i4_7 i4_8 i4_9 i4_10 i4_11 v4 f4; exfalso; omega
  | succ n4 ih4 =>
    intro M4 most i o6 t1 ok1 fr1 i4_0 i4_1 i4_2 i4_3 i4_4 i4_5 i4_6 i4_7 i4_8 i4_9 i4_10 i4_11 v4 f4
    obtain ⟨M4, rfl⟩ : ∃ m, M4 = m + 60 := ⟨M4 - 60, by omega⟩
    have lt := i4_10
    have nm := i4_11
    refine w_step rfl ?_
    refine w_iload rfl ?_
    refine w_iload rfl ?_
    refine w_cge (by omega) (fun h2 => ?_) (fun h2 => ?_)
    · skip
      refine w_step rfl ?_
      refine w_retV ?_
      exact ⟨ok1, fr1, (by omega), (by omega), (by omega), (by omega), (by omega), (by omega), lt⟩
    refine w_aload rfl ?_
    refine w_getI (g_39_0 _) fe_39_0 ok1 (fun z3 hz3 hl3 hh3 => ?_)
    refine w_push kc_m1 ?_
    refine w_cne (by omega) (fun h4 => ?_) (fun h4 => ?_)
    · skip
      refine w_step rfl ?_
      refine w_retV ?_
      exact ⟨ok1, fr1, (by omega), (by omega), (by omega), (by omega), (by omega), (by omega), lt⟩
    refine w_aload rfl ?_
    refine w_callV0I (oj_39 _).choose_spec rfl (c_X1_signAtHand ok1) ?_
    rintro z5 t5 ⟨rfl, hp5_0, hp5_1, hp5_2⟩
    refine w_callS1I rfl (c_X1_levelOf ok1 (by omega) (by omega)) ?_
    rintro z6 t6 ⟨rfl, hp6_0, hp6_1, hp6_2⟩
    refine w_iload rfl ?_
    refine w_cne (by omega) (fun h7 => ?_) (fun h7 => ?_)
    · skip
      refine w_step rfl ?_
      refine w_retV ?_
      exact ⟨ok1, fr1, (by omega), (by omega), (by omega), (by omega), (by omega), (by omega), lt⟩
    refine w_aload rfl ?_
    refine w_callV0I (oj_39 _).choose_spec rfl (c_X1_signAtHand ok1) ?_
    rintro z8 t8 ⟨rfl, hp8_0, hp8_1, hp8_2⟩
    refine w_istore (lv' := [some (.ref 39), some (.int (jI l)), some (.int (jI o)), some (.int (jI n)), some (.int (jI most)), some (.int (jI i)), some (.int (jI z8))]) rfl ?_
    refine w_aload rfl ?_
    refine w_callV0V (oj_39 _).choose_spec rfl (c_X1_step ok1 (by omega)) ?_
    rintro t9 ⟨ok9, fq9, hp9_0, hp9_1, hp9_2, hp9_3, hp9_4⟩
    have fr9 := fr1.then fq9 (by simp)
    have kf9_39_0 : tI t9 39 0 = tI t1 39 0 := fq9.1 39 0 (by simp)
    have kf9_39_4 : tI t9 39 4 = tI t1 39 4 := fq9.1 39 4 (by simp)
    have kf9_39_5 : tI t9 39 5 = tI t1 39 5 := fq9.1 39 5 (by simp)
    have kf9_37_1 : tI t9 37 1 = tI t1 37 1 := fq9.1 37 1 (by simp)
    have lt := hp9_4
    have nm : tN t9 = 1000006 ∨ tN t9 = 1000007 ∨ tN t9 = 1000008 := by rw [fq9.2.2.2.1 (by simp)]; exact nm
    refine w_aload rfl ?_
    refine w_iload rfl ?_
    refine w_push kc_1 ?_
    refine w_add ?_
    refine w_iload rfl ?_
    refine w_iload rfl ?_
    refine w_callV3V (oj_39 _).choose_spec rfl (hL _ ok9 (by omega) (by omega) (by omega) (by omega) (by omega) lt nm (by omega) (by omega) (by omega) (by omega) (by omega) (by omega) (by omega)) ?_
    rintro t10 ⟨ok10, fq10, hp10_0, hp10_1, hp10_2, hp10_3, hp10_4, hp10_5, hp10_6⟩
    have fr10 := fr9.then fq10 (by simp)
    have kf10_37_1 : tI t10 37 1 = tI t9 37 1 := fq10.1 37 1 (by simp)
    have lt := hp10_6
    have nm : tN t10 = 1000006 ∨ tN t10 = 1000007 ∨ tN t10 = 1000008 := by rw [fq10.2.2.2.1 (by simp)]; exact nm
    refine w_aload rfl ?_
    refine w_iload rfl ?_
    refine w_push kc_0 ?_
    refine w_callV2V (oj_39 _).choose_spec rfl (c_X1_emit ok10 (by omega) (by omega) (by omega) (by omega)) ?_
    rintro t11 ⟨ok11, fq11, hp11_0, hp11_1⟩
    have fr11 := fr10.then fq11 (by simp)
    have kf11_39_0 : tI t11 39 0 = tI t10 39 0 := fq11.1 39 0 (by simp)
    have kf11_39_5 : tI t11 39 5 = tI t10 39 5 := fq11.1 39 5 (by simp)
    have kf11_39_7 : tI t11 39 7 = tI t10 39 7 := fq11.1 39 7 (by simp)
    have kf11_39_8 : tI t11 39 8 = tI t10 39 8 := fq11.1 39 8 (by simp)
    have kf11_39_9 : tI t11 39 9 = tI t10 39 9 := fq11.1 39 9 (by simp)
    have kf11_37_1 : tI t11 37 1 = tI t10 37 1 := fq11.1 37 1 (by simp)
    have lt : LTp t11 := by
      intro h9
      rw [fq11.2.1 38 (by simp), fq11.1 39 8 (by simp)]
      exact lt (by rw [← fq11.1 39 7 (by simp)]; exact h9)
    have nm : tN t11 = 1000006 ∨ tN t11 = 1000007 ∨ tN t11 = 1000008 := by rw [fq11.2.2.2.1 (by simp)]; exact nm
    refine w_iinc (lv' := [some (.ref 39), some (.int (jI l)), some (.int (jI o)), some (.int (jI n)), some (.int (jI most)), some (.int (jI (i + 1))), some (.int (jI z8))]) kc_1 rfl rfl ?_
    refine w_goto ?_
    exact ih4 _ most (i + 1) (some z8) t11 ok11 fr11 (by omega) (by omega) (by omega) (by omega) (by omega) (by omega) (by omega) (by omega) (by omega) (by omega) lt nm (by omega) (by omega)
set_option maxRecDepth 100000 in
set_option maxHeartbeats 4000000 in
theorem c_X1_readLevel_b {d : Nat} {t : TS} {l o n : Int} {m : Nat} (hP : HPs m) (hL : HLs m) (ok : OK t) (q0 : tI t 39 9 ≤ tI t 37 1) (q1 : tI t 39 8 ≤ tI t 39 9) (q2 : tI t 39 7 ≤ 3 * (tI t 39 9 - tI t 39 8)) (q3 : tI t 39 4 + 3 ≤ tI t 39 8) (q4 : tI t 39 5 + 3 ≤ tI t 39 8) (q5 : LTp t) (q6 : tN t = 1000006 ∨ tN t = 1000007 ∨ tN t = 1000008) (q7 : 0 ≤ l) (q8 : l ≤ 5) (q9 : 0 ≤ o) (q10 : o ≤ 8) (q11 : 0 ≤ n) (q12 : n ≤ 8) (q13 : 7 * (8 - o) + (8 - n) + (6 - l) < (m : Int) + 1) : CV (EX FU (d + m + 14)) 12 [.ref 39, .int (jI l), .int (jI o), .int (jI n)] (mk t) (fun t' => OK t' ∧ Fr [(39, 0), (39, 4), (39, 5), (39, 7), (39, 8), (39, 9), (39, 10), (40, 100), (41, 100)] t t' ∧ (tI t' 39 9 ≤ tI t 37 1) ∧ (tI t' 39 8 ≤ tI t' 39 9) ∧ (tI t' 39 7 ≤ 3 * (tI t' 39 9 - tI t' 39 8)) ∧ (tI t' 39 4 + tI t 39 8 ≤ tI t 39 4 + tI t' 39 8) ∧ (tI t' 39 5 + tI t 39 8 ≤ tI t 39 5 + tI t' 39 8) ∧ (tI t 39 8 ≤ tI t' 39 8) ∧ (LTp t')) := by
  refine CV_ent (d := d + m + 13) (Bk := bX1_readLevel) (nL := 7) rfl rfl rfl (Nat.le_of_ble_eq_true rfl) ?_
  show Rn _ 1000000 0 [some (.ref 39), some (.int (jI l)), some (.int (jI o)), some (.int (jI n)), none, none, none] [] _ _
  have fr : Fr [(39, 0), (39, 4), (39, 5), (39, 7), (39, 8), (39, 9), (39, 10), (40, 100), (41, 100)] t t := Fr.rf _ _
  have lt := q5
  have r37 := ok.f fe_37_1
  refine w_step rfl ?_
  refine w_iload rfl ?_
  refine w_push kc_5 ?_
  refine w_clt (by omega) (fun h12 => ?_) (fun h12 => ?_)
  · skip
    refine w_step rfl ?_
    refine w_aload rfl ?_
    refine w_iload rfl ?_
    refine w_push kc_1 ?_
    refine w_add ?_
    refine w_iload rfl ?_
    refine w_iload rfl ?_
    refine w_callV3V (oj_39 _).choose_spec rfl (hL _ ok (by omega) (by omega) (by omega) (by omega) (by omega) lt q6 (by omega) (by omega) (by omega) (by omega) (by omega) (by omega) (by omega)) ?_
    rintro t13 ⟨ok13, fq13, hp13_0, hp13_1, hp13_2, hp13_3, hp13_4, hp13_5, hp13_6⟩
    have fr13 := fr.then fq13 (by simp)
    have kf13_37_1 : tI t13 37 1 = tI t 37 1 := fq13.1 37 1 (by simp)
    have lt := hp13_6
    have nm : tN t13 = 1000006 ∨ tN t13 = 1000007 ∨ tN t13 = 1000008 := by rw [fq13.2.2.2.1 (by simp)]; exact q6
    refine w_iload rfl ?_
    refine w_push kc_2 ?_
    refine w_cne (by omega) (fun h14 => ?_) (fun h14 => ?_)
    · skip
      refine w_step rfl ?_
      refine w_push kc_96 ?_
      refine w_goto ?_
      refine w_step rfl ?_
      refine w_istore (lv' := [some (.ref 39), some (.int (jI l)), some (.int (jI o)), some (.int (jI n)), some (.int (jI 96)), none, none]) rfl ?_
      refine w_push kc_0 ?_
      refine w_istore (lv' := [some (.ref 39), some (.int (jI l)), some (.int (jI o)), some (.int (jI n)), some (.int (jI 96)), some (.int (jI 0)), none]) rfl ?_
      refine w_goto ?_
      exact c_X1_readLevel_b_k4 (d := d) hP hL ok q0 q1 q2 q3 q4 q5 q6 q7 q8 q9 q10 q11 q12 q13 97 _ 96 0 none t13 ok13 fr13 (by omega) (by omega) (by omega) (by omega) (by omega) (by omega) (by omega) (by omega) (by omega) (by omega) lt nm (by omega) (by omega)
    refine w_push kc_1 ?_
    refine w_goto ?_
    refine w_step rfl ?_
    refine w_istore (lv' := [some (.ref 39), some (.int (jI l)), some (.int (jI o)), some (.int (jI n)), some (.int (jI 1)), none, none]) rfl ?_
    refine w_push kc_0 ?_
    refine w_istore (lv' := [some (.ref 39), some (.int (jI l)), some (.int (jI o)), some (.int (jI n)), some (.int (jI 1)), some (.int (jI 0)), none]) rfl ?_
    refine w_goto ?_
    exact c_X1_readLevel_b_k4 (d := d) hP hL ok q0 q1 q2 q3 q4 q5 q6 q7 q8 q9 q10 q11 q12 q13 97 _ 1 0 none t13 ok13 fr13 (by omega) (by omega) (by omega) (by omega) (by omega) (by omega) (by omega) (by omega) (by omega) (by omega) lt nm (by omega) (by omega)
  refine w_aload rfl ?_
  refine w_iload rfl ?_
  refine w_iload rfl ?_
  refine w_callV2V (oj_39 _).choose_spec rfl (hP _ ok (by omega) (by omega) (by omega) (by omega) (by omega) lt q6 (by omega) (by omega) (by omega) (by omega) (by omega)) ?_
  rintro t15 ⟨ok15, fq15, hp15_0, hp15_1, hp15_2, hp15_3, hp15_4, hp15_5, hp15_6⟩
  have fr15 := fr.then fq15 (by simp)
  have kf15_37_1 : tI t15 37 1 = tI t 37 1 := fq15.1 37 1 (by simp)
  have lt := hp15_6
  refine w_retV ?_
  exact ⟨ok15, fr15, (by omega), (by omega), (by omega), (by omega), (by omega), (by omega), lt⟩
theorem rd_all : ∀ m : Nat, HPs m ∧ HLs m
  | 0 => ⟨fun d t o n ok q0 q1 q2 q3 q4 q5 q6 q7 q8 q9 q10 q11 => by exfalso; omega, fun d t l o n ok q0 q1 q2 q3 q4 q5 q6 q7 q8 q9 q10 q11 q12 q13 => by exfalso; omega⟩
  | m + 1 => by
    obtain ⟨hP, hL⟩ := rd_all m
    refine ⟨fun d t o n ok q0 q1 q2 q3 q4 q5 q6 q7 q8 q9 q10 q11 => ?_, fun d t l o n ok q0 q1 q2 q3 q4 q5 q6 q7 q8 q9 q10 q11 q12 q13 => ?_⟩
    · have h := c_X1_readPiece_b (d := d) hP hL ok q0 q1 q2 q3 q4 q5 q6 q7 q8 q9 q10 (by omega)
      rw [show d + m + 14 = d + (m + 1) + 13 by omega] at h
      exact h
    · have h := c_X1_readLevel_b (d := d) hP hL ok q0 q1 q2 q3 q4 q5 q6 q7 q8 q9 q10 q11 q12 (by omega)
      rw [show d + m + 14 = d + (m + 1) + 13 by omega] at h
      exact h
theorem c_X1_readLevel0 {d : Nat} {t : TS} {l o n : Int}  (ok : OK t) (q0 : tI t 39 9 ≤ tI t 37 1) (q1 : tI t 39 8 ≤ tI t 39 9) (q2 : tI t 39 7 ≤ 3 * (tI t 39 9 - tI t 39 8)) (q3 : tI t 39 4 + 3 ≤ tI t 39 8) (q4 : tI t 39 5 + 3 ≤ tI t 39 8) (q5 : LTp t) (q6 : tN t = 1000006 ∨ tN t = 1000007 ∨ tN t = 1000008) (q7 : l = 0) (q8 : o = 0) (q9 : n = 0) : CV (EX FU (d + 84)) 12 [.ref 39, .int (jI l), .int (jI o), .int (jI n)] (mk t) (fun t' => OK t' ∧ Fr [(39, 0), (39, 4), (39, 5), (39, 7), (39, 8), (39, 9), (39, 10), (40, 100), (41, 100)] t t' ∧ (tI t' 39 9 ≤ tI t 37 1) ∧ (tI t' 39 8 ≤ tI t' 39 9) ∧ (tI t' 39 7 ≤ 3 * (tI t' 39 9 - tI t' 39 8)) ∧ (tI t' 39 4 + tI t 39 8 ≤ tI t 39 4 + tI t' 39 8) ∧ (tI t' 39 5 + tI t 39 8 ≤ tI t 39 5 + tI t' 39 8) ∧ (tI t 39 8 ≤ tI t' 39 8) ∧ (LTp t')) := by
  subst q7 q8 q9
  exact (rd_all 71).2 d ok q0 q1 q2 q3 q4 q5 q6 (by omega) (by omega) (by omega) (by omega) (by omega) (by omega) (by omega)
