set_option maxRecDepth 100000 in
set_option maxHeartbeats 4000000 in
theorem c_X1_close {d : Nat} {t : TS}  (ok : OK t) (q0 : tI t 39 9 ≤ tI t 37 1) (q1 : tI t 39 8 ≤ tI t 39 9) (q2 : ¬ tI t 39 7 = 0 → tI t 39 8 < tI t 39 9) (q3 : tI t 39 4 + 3 ≤ tI t 39 8) (q4 : tI t 39 5 + 3 ≤ tI t 39 8) (q5 : tI t 39 7 = 1 → (97 ≤ tA t 38 (tI t 39 8).toNat ∧ tA t 38 (tI t 39 8).toNat ≤ 122)) (q6 : tN t = 1000006 ∨ tN t = 1000007 ∨ tN t = 1000008) : CV (EX FU (d + 3)) 15 [.ref 39] (mk t) (fun t' => OK t' ∧ Fr [(39, 0), (39, 4), (39, 5), (39, 7), (39, 8), (39, 9), (39, 10), (40, 100), (41, 100)] t t' ∧ (tI t' 39 9 ≤ tI t 37 1) ∧ (tI t' 39 8 ≤ tI t' 39 9) ∧ (¬ tI t' 39 7 = 0 → tI t' 39 8 < tI t' 39 9) ∧ (tI t' 39 4 + tI t 39 8 ≤ tI t 39 4 + tI t' 39 8) ∧ (tI t' 39 5 + tI t 39 8 ≤ tI t 39 5 + tI t' 39 8) ∧ (tI t 39 8 ≤ tI t' 39 8) ∧ (tI t' 39 7 = 1 → (97 ≤ tA t' 38 (tI t' 39 8).toNat ∧ tA t' 38 (tI t' 39 8).toNat ≤ 122))) := by
  refine CV_ent (d := d + 2) (Bk := bX1_close) (nL := 1) rfl rfl rfl (Nat.le_of_ble_eq_true rfl) ?_
  show Rn _ 1000000 0 [some (.ref 39)] [] _ _
  have fr : Fr [(39, 0), (39, 4), (39, 5), (39, 7), (39, 8), (39, 9), (39, 10), (40, 100), (41, 100)] t t := Fr.rf _ _
  have lt := q5
  refine w_step rfl ?_
  refine w_aload rfl ?_
  refine w_getI (g_39_0 _) fe_39_0 ok (fun z1 hz1 hl1 hh1 => ?_)
  refine w_push kc_m1 ?_
  refine w_ceq (by omega) (fun h2 => ?_) (fun h2 => ?_)
  · skip
    refine w_step rfl ?_
    refine w_aload rfl ?_
    refine w_callV0I (oj_39 _).choose_spec rfl (c_X1_signAtHand ok) ?_
    rintro z3 t3 ⟨rfl, hp3_0, hp3_1, hp3_2⟩
    refine w_push kc_41 ?_
    refine w_cne (by omega) (fun h4 => ?_) (fun h4 => ?_)
    · skip
      refine w_step rfl ?_
      refine w_aload rfl ?_
      refine w_aload rfl ?_
      refine w_getI (g_39_8 _) fe_39_8 ok (fun z5 hz5 hl5 hh5 => ?_)
      refine w_putI (p_39_0 _) fe_39_0 ok (by omega) (fun t6 ht6 ok6 => ?_)
      have kf6_39_0 : tI t6 39 0 = z5 := by rw [ht6, tI_uI, if_pos ⟨rfl, rfl⟩]
      have kf6_39_4 : tI t6 39 4 = tI t 39 4 := by rw [ht6, tI_uI, if_neg (by decide)]
      have kf6_39_5 : tI t6 39 5 = tI t 39 5 := by rw [ht6, tI_uI, if_neg (by decide)]
      have kf6_39_7 : tI t6 39 7 = tI t 39 7 := by rw [ht6, tI_uI, if_neg (by decide)]
      have kf6_39_8 : tI t6 39 8 = tI t 39 8 := by rw [ht6, tI_uI, if_neg (by decide)]
      have kf6_39_9 : tI t6 39 9 = tI t 39 9 := by rw [ht6, tI_uI, if_neg (by decide)]
      have kf6_37_1 : tI t6 37 1 = tI t 37 1 := by rw [ht6, tI_uI, if_neg (by decide)]
      have fr6 := fr.uI ht6 (by simp)
      have lt : tI t6 39 7 = 1 → (97 ≤ tA t6 38 (tI t6 39 8).toNat ∧ tA t6 38 (tI t6 39 8).toNat ≤ 122) := by
        intro h9
        rw [ht6, tA_uI, tI_uI, if_neg (by decide)]
        exact lt (by omega)
      refine w_goto ?_
      refine w_step rfl ?_
      refine w_retV ?_
      exact ⟨ok6, fr6, (by omega), (by omega), (by omega), (by omega), (by omega), (by omega), lt⟩
    refine w_aload rfl ?_
    refine w_callV0V (oj_39 _).choose_spec rfl (c_X1_step ok (by omega)) ?_
    rintro t7 ⟨ok7, fq7, hp7_0, hp7_1, hp7_2, hp7_3, hp7_4⟩
    have fr7 := fr.then fq7 (by simp)
    have kf7_39_0 : tI t7 39 0 = tI t 39 0 := fq7.1 39 0 (by simp)
    have kf7_39_4 : tI t7 39 4 = tI t 39 4 := fq7.1 39 4 (by simp)
    have kf7_39_5 : tI t7 39 5 = tI t 39 5 := fq7.1 39 5 (by simp)
    have kf7_37_1 : tI t7 37 1 = tI t 37 1 := fq7.1 37 1 (by simp)
    have lt := hp7_4
    refine w_goto ?_
    refine w_step rfl ?_
    refine w_retV ?_
    exact ⟨ok7, fr7, (by omega), (by omega), (by omega), (by omega), (by omega), (by omega), lt⟩
  refine w_retV ?_
  exact ⟨ok, fr, (by omega), (by omega), (by omega), (by omega), (by omega), (by omega), lt⟩
