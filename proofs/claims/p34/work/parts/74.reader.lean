def LTp (t : TS) : Prop := tI t 39 7 = 1 → (97 ≤ tA t 38 (tI t 39 8).toNat ∧ tA t 38 (tI t 39 8).toNat ≤ 122)
set_option maxRecDepth 100000 in
set_option maxHeartbeats 4000000 in
theorem c_X1_sortAt {d : Nat} {t : TS} {p : Int}  (ok : OK t) (q0 : 0 ≤ p) (q1 : p ≤ 96) : CI (EX FU (d + 1)) 10 [.ref 39, .int (jI p)] (mk t) (fun z t' => t = t' ∧ (0 ≤ z) ∧ (z ≤ 3) ∧ ((z = 0 ∧ tI t 37 1 ≤ p) ∨ (¬ z = 0 ∧ p < tI t 37 1)) ∧ (z = 1 → (97 ≤ tA t 38 p.toNat ∧ tA t 38 p.toNat ≤ 122))) := by
  refine CI_ent (d := d + 0) (Bk := bX1_sortAt) (nL := 3) rfl rfl rfl (Nat.le_of_ble_eq_true rfl) ?_
  show Rn _ 1000000 0 [some (.ref 39), some (.int (jI p)), none] [] _ _
  have r37 := ok.f fe_37_1
  refine w_step rfl ?_
  refine w_iload rfl ?_
  refine w_aload rfl ?_
  refine w_getR (g_39_1 _) ?_
  refine w_getI (g_37_1 _) fe_37_1 ok (fun z1 hz1 hl1 hh1 => ?_)
  refine w_clt (by omega) (fun h2 => ?_) (fun h2 => ?_)
  · skip
    refine w_step rfl ?_
    refine w_aload rfl ?_
    refine w_getR (g_39_1 _) ?_
    refine w_getR (g_37_0 _) ?_
    refine w_iload rfl ?_
    refine w_iald (i := (p).toNat) (ai_38 _) (by omega) (by omega) (ae_38 _) ok (fun z3 hz3 hl3 hh3 => ?_)
    refine w_istore (lv' := [some (.ref 39), some (.int (jI p)), some (.int (jI z3))]) rfl ?_
    refine w_iload rfl ?_
    refine w_push kc_97 ?_
    refine w_clt (by omega) (fun h4 => ?_) (fun h4 => ?_)
    · skip
      refine w_step rfl ?_
      refine w_iload rfl ?_
      refine w_push kc_48 ?_
      refine w_clt (by omega) (fun h5 => ?_) (fun h5 => ?_)
      · skip
        refine w_step rfl ?_
        refine w_push kc_3 ?_
        refine w_goto ?_
        refine w_step rfl ?_
        refine w_retI rfl ?_
        exact ⟨rfl, (by omega), (by omega), (by omega), (by omega)⟩
      refine w_iload rfl ?_
      refine w_push kc_57 ?_
      refine w_cgt (by omega) (fun h6 => ?_) (fun h6 => ?_)
      · skip
        refine w_step rfl ?_
        refine w_push kc_3 ?_
        refine w_goto ?_
        refine w_step rfl ?_
        refine w_retI rfl ?_
        exact ⟨rfl, (by omega), (by omega), (by omega), (by omega)⟩
      refine w_push kc_2 ?_
      refine w_goto ?_
      refine w_step rfl ?_
      refine w_retI rfl ?_
      exact ⟨rfl, (by omega), (by omega), (by omega), (by omega)⟩
    refine w_iload rfl ?_
    refine w_push kc_122 ?_
    refine w_cgt (by omega) (fun h7 => ?_) (fun h7 => ?_)
    · skip
      refine w_step rfl ?_
      refine w_iload rfl ?_
      refine w_push kc_48 ?_
      refine w_clt (by omega) (fun h8 => ?_) (fun h8 => ?_)
      · skip
        refine w_step rfl ?_
        refine w_push kc_3 ?_
        refine w_goto ?_
        refine w_step rfl ?_
        refine w_retI rfl ?_
        exact ⟨rfl, (by omega), (by omega), (by omega), (by omega)⟩
      refine w_iload rfl ?_
      refine w_push kc_57 ?_
      refine w_cgt (by omega) (fun h9 => ?_) (fun h9 => ?_)
      · skip
        refine w_step rfl ?_
        refine w_push kc_3 ?_
        refine w_goto ?_
        refine w_step rfl ?_
        refine w_retI rfl ?_
        exact ⟨rfl, (by omega), (by omega), (by omega), (by omega)⟩
      refine w_push kc_2 ?_
      refine w_goto ?_
      refine w_step rfl ?_
      refine w_retI rfl ?_
      exact ⟨rfl, (by omega), (by omega), (by omega), (by omega)⟩
    refine w_push kc_1 ?_
    refine w_retI rfl ?_
    exact ⟨rfl, (by omega), (by omega), (by omega), (by omega)⟩
  refine w_push kc_0 ?_
  refine w_retI rfl ?_
  exact ⟨rfl, (by omega), (by omega), (by omega), (by omega)⟩
set_option maxRecDepth 100000 in
set_option maxHeartbeats 4000000 in
theorem c_X1_signAtHand {d : Nat} {t : TS}  (ok : OK t) : CI (EX FU (d + 1)) 11 [.ref 39] (mk t) (fun z t' => t = t' ∧ (0 ≤ z) ∧ (z ≤ 255) ∧ (z = 0 ∨ (tI t 39 7 = 3 ∧ tI t 39 8 < tI t 37 1))) := by
  refine CI_ent (d := d + 0) (Bk := bX1_signAtHand) (nL := 1) rfl rfl rfl (Nat.le_of_ble_eq_true rfl) ?_
  show Rn _ 1000000 0 [some (.ref 39)] [] _ _
  have r37 := ok.f fe_37_1
  refine w_step rfl ?_
  refine w_aload rfl ?_
  refine w_getI (g_39_7 _) fe_39_7 ok (fun z1 hz1 hl1 hh1 => ?_)
  refine w_push kc_3 ?_
  refine w_cne (by omega) (fun h2 => ?_) (fun h2 => ?_)
  · skip
    refine w_step rfl ?_
    refine w_push kc_0 ?_
    refine w_goto ?_
    refine w_step rfl ?_
    refine w_retI rfl ?_
    exact ⟨rfl, (by omega), (by omega), (by omega)⟩
  refine w_aload rfl ?_
  refine w_getI (g_39_8 _) fe_39_8 ok (fun z3 hz3 hl3 hh3 => ?_)
  refine w_aload rfl ?_
  refine w_getR (g_39_1 _) ?_
  refine w_getI (g_37_1 _) fe_37_1 ok (fun z4 hz4 hl4 hh4 => ?_)
  refine w_cge (by omega) (fun h5 => ?_) (fun h5 => ?_)
  · skip
    refine w_step rfl ?_
    refine w_push kc_0 ?_
    refine w_goto ?_
    refine w_step rfl ?_
    refine w_retI rfl ?_
    exact ⟨rfl, (by omega), (by omega), (by omega)⟩
  refine w_aload rfl ?_
  refine w_getR (g_39_1 _) ?_
  refine w_getR (g_37_0 _) ?_
  refine w_aload rfl ?_
  refine w_getI (g_39_8 _) fe_39_8 ok (fun z6 hz6 hl6 hh6 => ?_)
  refine w_iald (i := (z6).toNat) (ai_38 _) (by omega) (by omega) (ae_38 _) ok (fun z7 hz7 hl7 hh7 => ?_)
  refine w_goto ?_
  refine w_step rfl ?_
  refine w_retI rfl ?_
  exact ⟨rfl, (by omega), (by omega), (by omega)⟩
set_option maxRecDepth 100000 in
set_option maxHeartbeats 4000000 in
theorem c_X1_levelOf {d : Nat} {t : TS} {s : Int}  (ok : OK t) (q0 : -2147483648 ≤ s) (q1 : s ≤ 2147483647) : CI (EX FU (d + 1)) 13 [.int (jI s)] (mk t) (fun z t' => t = t' ∧ (-1 ≤ z) ∧ (z ≤ 4) ∧ (¬ s = 0 ∨ z = -1)) := by
  refine CI_ent (d := d + 0) (Bk := bX1_levelOf) (nL := 1) rfl rfl rfl (Nat.le_of_ble_eq_true rfl) ?_
  show Rn _ 1000000 0 [some (.int (jI s))] [] _ _
  refine w_step rfl ?_
  refine w_iload rfl ?_
  have hs1 : s = 38 ∨ s = 42 ∨ s = 43 ∨ s = 45 ∨ s = 47 ∨ s = 60 ∨ s = 61 ∨ s = 62 ∨ s = 124 ∨ (¬ s = 38 ∧ ¬ s = 42 ∧ ¬ s = 43 ∧ ¬ s = 45 ∧ ¬ s = 47 ∧ ¬ s = 60 ∧ ¬ s = 61 ∧ ¬ s = 62 ∧ ¬ s = 124) := ((Decidable.em (s = 38)).elim Or.inl (fun n0 => Or.inr ((Decidable.em (s = 42)).elim Or.inl (fun n1 => Or.inr ((Decidable.em (s = 43)).elim Or.inl (fun n2 => Or.inr ((Decidable.em (s = 45)).elim Or.inl (fun n3 => Or.inr ((Decidable.em (s = 47)).elim Or.inl (fun n4 => Or.inr ((Decidable.em (s = 60)).elim Or.inl (fun n5 => Or.inr ((Decidable.em (s = 61)).elim Or.inl (fun n6 => Or.inr ((Decidable.em (s = 62)).elim Or.inl (fun n7 => Or.inr ((Decidable.em (s = 124)).elim Or.inl (fun n8 => Or.inr ⟨n0, n1, n2, n3, n4, n5, n6, n7, n8⟩))))))))))))))))))
  rcases hs1 with hs1 | hs1 | hs1 | hs1 | hs1 | hs1 | hs1 | hs1 | hs1 | hs1
  · refine w_sw (n := 2) (lsw_at hs1 (by decide)) ?_
    refine w_step rfl ?_
    refine w_push kc_1 ?_
    refine w_retI rfl ?_
    exact ⟨rfl, (by omega), (by omega), (by omega)⟩
  · refine w_sw (n := 5) (lsw_at hs1 (by decide)) ?_
    refine w_step rfl ?_
    refine w_push kc_4 ?_
    refine w_retI rfl ?_
    exact ⟨rfl, (by omega), (by omega), (by omega)⟩
  · refine w_sw (n := 4) (lsw_at hs1 (by decide)) ?_
    refine w_step rfl ?_
    refine w_push kc_3 ?_
    refine w_retI rfl ?_
    exact ⟨rfl, (by omega), (by omega), (by omega)⟩
  · refine w_sw (n := 4) (lsw_at hs1 (by decide)) ?_
    refine w_step rfl ?_
    refine w_push kc_3 ?_
    refine w_retI rfl ?_
    exact ⟨rfl, (by omega), (by omega), (by omega)⟩
  · refine w_sw (n := 5) (lsw_at hs1 (by decide)) ?_
    refine w_step rfl ?_
    refine w_push kc_4 ?_
    refine w_retI rfl ?_
    exact ⟨rfl, (by omega), (by omega), (by omega)⟩
  · refine w_sw (n := 3) (lsw_at hs1 (by decide)) ?_
    refine w_step rfl ?_
    refine w_push kc_2 ?_
    refine w_retI rfl ?_
    exact ⟨rfl, (by omega), (by omega), (by omega)⟩
  · refine w_sw (n := 3) (lsw_at hs1 (by decide)) ?_
    refine w_step rfl ?_
    refine w_push kc_2 ?_
    refine w_retI rfl ?_
    exact ⟨rfl, (by omega), (by omega), (by omega)⟩
  · refine w_sw (n := 3) (lsw_at hs1 (by decide)) ?_
    refine w_step rfl ?_
    refine w_push kc_2 ?_
    refine w_retI rfl ?_
    exact ⟨rfl, (by omega), (by omega), (by omega)⟩
  · refine w_sw (n := 1) (lsw_at hs1 (by decide)) ?_
    refine w_step rfl ?_
    refine w_push kc_0 ?_
    refine w_retI rfl ?_
    exact ⟨rfl, (by omega), (by omega), (by omega)⟩
  · refine w_sw (n := 6) (lsw_df (by omega) (by simp only [List.mem_cons, List.not_mem_nil, or_false, forall_eq_or_imp, forall_eq]; omega)) ?_
    refine w_step rfl ?_
    refine w_push kc_m1 ?_
    refine w_retI rfl ?_
    exact ⟨rfl, (by omega), (by omega), (by omega)⟩
set_option maxRecDepth 100000 in
set_option maxHeartbeats 4000000 in
theorem c_X1_step_k9 {d : Nat} {t : TS}  (ok : OK t) (q0 : tI t 39 9 ≤ tI t 37 1) : ∀ (M9 : Nat) (bh : Int) (ww : Int) (t1 : TS), OK t1 → Fr [(39, 7), (39, 8), (39, 9), (39, 10)] t t1 → (-2147483648 ≤ bh) → (bh ≤ 2147483647) → (0 ≤ ww) → (ww ≤ 1) → (tI t1 37 1 = tI t 37 1) → (tI t 39 9 ≤ tI t1 39 8) → (tI t1 39 8 ≤ tI t1 39 9) → (tI t1 39 9 ≤ tI t 37 1) → (tI t1 39 7 ≤ 3 * (tI t1 39 9 - tI t1 39 8)) → (LTp t1) → 1000 ≤ M9 → Rn (bX1_step (EX FU (d + 1))) M9 9 [some (.ref 39), some (.int (jI bh)), some (.int (jI ww))] [] (mk t1) (PV (fun t' => OK t' ∧ Fr [(39, 7), (39, 8), (39, 9), (39, 10)] t t' ∧ (tI t 39 9 ≤ tI t' 39 8) ∧ (tI t' 39 8 ≤ tI t' 39 9) ∧ (tI t' 39 9 ≤ tI t 37 1) ∧ (tI t' 39 7 ≤ 3 * (tI t' 39 9 - tI t' 39 8)) ∧ (LTp t'))) := by
  have r37 := ok.f fe_37_1
  have r9 := ok.f fe_39_9
  intro M9 bh ww t1 ok1 fr1 i9_0 i9_1 i9_2 i9_3 i9_4 i9_5 i9_6 i9_7 i9_8 i9_9 f9
  obtain ⟨M9, rfl⟩ : ∃ m, M9 = m + 60 := ⟨M9 - 60, by omega⟩
  have lt := i9_9
  refine w_step rfl ?_
  refine w_aload rfl ?_
  refine w_iload rfl ?_
  refine w_ieq (by omega) (fun h2 => ?_) (fun h2 => ?_)
  · skip
    refine w_step rfl ?_
    refine w_push kc_0 ?_
    refine w_goto ?_
    refine w_step rfl ?_
    refine w_putZ (by omega) (p_39_10 _) fe_39_10 ok1 (by omega) (fun t3 ht3 ok3 => ?_)
    have kf3_39_0 : tI t3 39 0 = tI t1 39 0 := by rw [ht3, tI_uI, if_neg (by decide)]
    have kf3_39_4 : tI t3 39 4 = tI t1 39 4 := by rw [ht3, tI_uI, if_neg (by decide)]
    have kf3_39_5 : tI t3 39 5 = tI t1 39 5 := by rw [ht3, tI_uI, if_neg (by decide)]
    have kf3_39_7 : tI t3 39 7 = tI t1 39 7 := by rw [ht3, tI_uI, if_neg (by decide)]
    have kf3_39_8 : tI t3 39 8 = tI t1 39 8 := by rw [ht3, tI_uI, if_neg (by decide)]
    have kf3_39_9 : tI t3 39 9 = tI t1 39 9 := by rw [ht3, tI_uI, if_neg (by decide)]
    have kf3_37_1 : tI t3 37 1 = tI t1 37 1 := by rw [ht3, tI_uI, if_neg (by decide)]
    have fr3 := fr1.uI ht3 (by simp)
    have lt : LTp t3 := by
      intro h9
      rw [ht3, tA_uI, tI_uI, if_neg (by decide)]
      exact lt (by omega)
    refine w_retV ?_
    exact ⟨ok3, fr3, (by omega), (by omega), (by omega), (by omega), lt⟩
  refine w_aload rfl ?_
  refine w_getI (g_39_8 _) fe_39_8 ok1 (fun z4 hz4 hl4 hh4 => ?_)
  refine w_iload rfl ?_
  refine w_cne (by omega) (fun h5 => ?_) (fun h5 => ?_)
  · skip
    refine w_step rfl ?_
    refine w_push kc_0 ?_
    refine w_goto ?_
    refine w_step rfl ?_
    refine w_putZ (by omega) (p_39_10 _) fe_39_10 ok1 (by omega) (fun t6 ht6 ok6 => ?_)
    have kf6_39_0 : tI t6 39 0 = tI t1 39 0 := by rw [ht6, tI_uI, if_neg (by decide)]
    have kf6_39_4 : tI t6 39 4 = tI t1 39 4 := by rw [ht6, tI_uI, if_neg (by decide)]
    have kf6_39_5 : tI t6 39 5 = tI t1 39 5 := by rw [ht6, tI_uI, if_neg (by decide)]
    have kf6_39_7 : tI t6 39 7 = tI t1 39 7 := by rw [ht6, tI_uI, if_neg (by decide)]
    have kf6_39_8 : tI t6 39 8 = tI t1 39 8 := by rw [ht6, tI_uI, if_neg (by decide)]
    have kf6_39_9 : tI t6 39 9 = tI t1 39 9 := by rw [ht6, tI_uI, if_neg (by decide)]
    have kf6_37_1 : tI t6 37 1 = tI t1 37 1 := by rw [ht6, tI_uI, if_neg (by decide)]
    have fr6 := fr1.uI ht6 (by simp)
    have lt : LTp t6 := by
      intro h9
      rw [ht6, tA_uI, tI_uI, if_neg (by decide)]
      exact lt (by omega)
    refine w_retV ?_
    exact ⟨ok6, fr6, (by omega), (by omega), (by omega), (by omega), lt⟩
  refine w_push kc_1 ?_
  refine w_goto ?_
  refine w_step rfl ?_
  refine w_putZ (by omega) (p_39_10 _) fe_39_10 ok1 (by omega) (fun t7 ht7 ok7 => ?_)
  have kf7_39_0 : tI t7 39 0 = tI t1 39 0 := by rw [ht7, tI_uI, if_neg (by decide)]
  have kf7_39_4 : tI t7 39 4 = tI t1 39 4 := by rw [ht7, tI_uI, if_neg (by decide)]
  have kf7_39_5 : tI t7 39 5 = tI t1 39 5 := by rw [ht7, tI_uI, if_neg (by decide)]
  have kf7_39_7 : tI t7 39 7 = tI t1 39 7 := by rw [ht7, tI_uI, if_neg (by decide)]
  have kf7_39_8 : tI t7 39 8 = tI t1 39 8 := by rw [ht7, tI_uI, if_neg (by decide)]
  have kf7_39_9 : tI t7 39 9 = tI t1 39 9 := by rw [ht7, tI_uI, if_neg (by decide)]
  have kf7_37_1 : tI t7 37 1 = tI t1 37 1 := by rw [ht7, tI_uI, if_neg (by decide)]
  have fr7 := fr1.uI ht7 (by simp)
  have lt : LTp t7 := by
    intro h9
    rw [ht7, tA_uI, tI_uI, if_neg (by decide)]
    exact lt (by omega)
  refine w_retV ?_
  exact ⟨ok7, fr7, (by omega), (by omega), (by omega), (by omega), lt⟩
set_option maxRecDepth 100000 in
set_option maxHeartbeats 4000000 in
theorem c_X1_step_k8 {d : Nat} {t : TS}  (ok : OK t) (q0 : tI t 39 9 ≤ tI t 37 1) : ∀ (n8 M8 : Nat) (bh : Int) (ww : Int) (t8 : TS), OK t8 → Fr [(39, 7), (39, 8), (39, 9), (39, 10)] t t8 → (-2147483648 ≤ bh) → (bh ≤ 2147483647) → (0 ≤ ww) → (ww ≤ 1) → (tI t8 37 1 = tI t 37 1) → (tI t 39 9 ≤ tI t8 39 8) → (tI t8 39 8 < tI t8 39 9) → (tI t8 39 9 ≤ tI t 37 1) → (LTp t8) → 96 - tI t8 39 9 < (n8 : Int) → 60 * n8 + (5000) ≤ M8 → Rn (bX1_step (EX FU (d + 1))) M8 8 [some (.ref 39), some (.int (jI bh)), some (.int (jI ww))] [] (mk t8) (PV (fun t' => OK t' ∧ Fr [(39, 7), (39, 8), (39, 9), (39, 10)] t t' ∧ (tI t 39 9 ≤ tI t' 39 8) ∧ (tI t' 39 8 ≤ tI t' 39 9) ∧ (tI t' 39 9 ≤ tI t 37 1) ∧ (tI t' 39 7 ≤ 3 * (tI t' 39 9 - tI t' 39 8)) ∧ (LTp t'))) := by
  have r37 := ok.f fe_37_1
  have r9 := ok.f fe_39_9
  intro n8
  induction n8 with
  | zero => intro M8 bh ww t8 ok8 fr8 i8_0 i8_1 i8_2 i8_3 i8_4 i8_5 i8_6 i8_7 i8_8 v8 f8; exfalso; omega
  | succ n8 ih8 =>
    intro M8 bh ww t8 ok8 fr8 i8_0 i8_1 i8_2 i8_3 i8_4 i8_5 i8_6 i8_7 i8_8 v8 f8
    obtain ⟨M8, rfl⟩ : ∃ m, M8 = m + 60 := ⟨M8 - 60, by omega⟩
    have lt := i8_8
    have r7 := ok8.f fe_39_7
    refine w_step rfl ?_
    refine w_aload rfl ?_
    refine w_getI (g_39_9 _) fe_39_9 ok8 (fun z9 hz9 hl9 hh9 => ?_)
    refine w_aload rfl ?_
    refine w_getR (g_39_1 _) ?_
    refine w_getI (g_37_1 _) fe_37_1 ok8 (fun z10 hz10 hl10 hh10 => ?_)
    refine w_cge (by omega) (fun h11 => ?_) (fun h11 => ?_)
    · skip
      exact c_X1_step_k9 (d := d) ok q0  _ bh ww t8 ok8 fr8 (by omega) (by omega) (by omega) (by omega) (by omega) (by omega) (by omega) (by omega) (by omega) lt  (by omega)
    refine w_aload rfl ?_
    refine w_aload rfl ?_
    refine w_getI (g_39_9 _) fe_39_9 ok8 (fun z12 hz12 hl12 hh12 => ?_)
    refine w_callV1I (oj_39 _).choose_spec rfl (c_X1_sortAt ok8 (by omega) (by omega)) ?_
    rintro z13 t13 ⟨rfl, hp13_0, hp13_1, hp13_2, hp13_3⟩
    refine w_aload rfl ?_
    refine w_getI (g_39_7 _) fe_39_7 ok8 (fun z14 hz14 hl14 hh14 => ?_)
    refine w_cne (by omega) (fun h15 => ?_) (fun h15 => ?_)
    · skip
      exact c_X1_step_k9 (d := d) ok q0  _ bh ww t8 ok8 fr8 (by omega) (by omega) (by omega) (by omega) (by omega) (by omega) (by omega) (by omega) (by omega) lt  (by omega)
    refine w_aload rfl ?_
    refine w_dupR ?_
    refine w_getI (g_39_9 _) fe_39_9 ok8 (fun z16 hz16 hl16 hh16 => ?_)
    refine w_push kc_1 ?_
    refine w_add ?_
    refine w_putI (p_39_9 _) fe_39_9 ok8 (by omega) (fun t17 ht17 ok17 => ?_)
    have kf17_39_0 : tI t17 39 0 = tI t8 39 0 := by rw [ht17, tI_uI, if_neg (by decide)]
    have kf17_39_4 : tI t17 39 4 = tI t8 39 4 := by rw [ht17, tI_uI, if_neg (by decide)]
    have kf17_39_5 : tI t17 39 5 = tI t8 39 5 := by rw [ht17, tI_uI, if_neg (by decide)]
    have kf17_39_7 : tI t17 39 7 = tI t8 39 7 := by rw [ht17, tI_uI, if_neg (by decide)]
    have kf17_39_8 : tI t17 39 8 = tI t8 39 8 := by rw [ht17, tI_uI, if_neg (by decide)]
    have kf17_39_9 : tI t17 39 9 = (z16 + 1) := by rw [ht17, tI_uI, if_pos ⟨rfl, rfl⟩]
    have kf17_37_1 : tI t17 37 1 = tI t8 37 1 := by rw [ht17, tI_uI, if_neg (by decide)]
    have fr17 := fr8.uI ht17 (by simp)
    have lt : LTp t17 := by
      intro h9
      rw [ht17, tA_uI, tI_uI, if_neg (by decide)]
      exact lt (by omega)
    refine w_goto ?_
    exact ih8 _ bh ww t17 ok17 fr17 (by omega) (by omega) (by omega) (by omega) (by omega) (by omega) (by omega) (by omega) lt (by omega) (by omega)
set_option maxRecDepth 100000 in
set_option maxHeartbeats 4000000 in
theorem c_X1_step_k5 {d : Nat} {t : TS}  (ok : OK t) (q0 : tI t 39 9 ≤ tI t 37 1) : ∀ (M5 : Nat) (bh : Int) (ww : Int) (t18 : TS), OK t18 → Fr [(39, 7), (39, 8), (39, 9), (39, 10)] t t18 → (-2147483648 ≤ bh) → (bh ≤ 2147483647) → (0 ≤ ww) → (ww ≤ 1) → (tI t18 37 1 = tI t 37 1) → (tI t 39 9 ≤ tI t18 39 8) → (tI t18 39 8 ≤ tI t 37 1) → 20000 ≤ M5 → Rn (bX1_step (EX FU (d + 1))) M5 5 [some (.ref 39), some (.int (jI bh)), some (.int (jI ww))] [] (mk t18) (PV (fun t' => OK t' ∧ Fr [(39, 7), (39, 8), (39, 9), (39, 10)] t t' ∧ (tI t 39 9 ≤ tI t' 39 8) ∧ (tI t' 39 8 ≤ tI t' 39 9) ∧ (tI t' 39 9 ≤ tI t 37 1) ∧ (tI t' 39 7 ≤ 3 * (tI t' 39 9 - tI t' 39 8)) ∧ (LTp t'))) := by
  have r37 := ok.f fe_37_1
  have r9 := ok.f fe_39_9
  intro M5 bh ww t18 ok18 fr18 i5_0 i5_1 i5_2 i5_3 i5_4 i5_5 i5_6 f5
  obtain ⟨M5, rfl⟩ : ∃ m, M5 = m + 60 := ⟨M5 - 60, by omega⟩
  have r8 := ok18.f fe_39_8
  refine w_step rfl ?_
  refine w_aload rfl ?_
  refine w_aload rfl ?_
  refine w_aload rfl ?_
  refine w_getI (g_39_8 _) fe_39_8 ok18 (fun z19 hz19 hl19 hh19 => ?_)
  refine w_callV1I (oj_39 _).choose_spec rfl (c_X1_sortAt ok18 (by omega) (by omega)) ?_
  rintro z20 t20 ⟨rfl, hp20_0, hp20_1, hp20_2, hp20_3⟩
  rw [hz19] at hp20_3
  have hs3 := hp20_3
  refine w_putI (p_39_7 _) fe_39_7 ok18 (by omega) (fun t21 ht21 ok21 => ?_)
  have kf21_39_0 : tI t21 39 0 = tI t18 39 0 := by rw [ht21, tI_uI, if_neg (by decide)]
  have kf21_39_4 : tI t21 39 4 = tI t18 39 4 := by rw [ht21, tI_uI, if_neg (by decide)]
  have kf21_39_5 : tI t21 39 5 = tI t18 39 5 := by rw [ht21, tI_uI, if_neg (by decide)]
  have kf21_39_7 : tI t21 39 7 = z20 := by rw [ht21, tI_uI, if_pos ⟨rfl, rfl⟩]
  have kf21_39_8 : tI t21 39 8 = tI t18 39 8 := by rw [ht21, tI_uI, if_neg (by decide)]
  have kf21_39_9 : tI t21 39 9 = tI t18 39 9 := by rw [ht21, tI_uI, if_neg (by decide)]
  have kf21_37_1 : tI t21 37 1 = tI t18 37 1 := by rw [ht21, tI_uI, if_neg (by decide)]
  have fr21 := fr18.uI ht21 (by simp)
  have lt : LTp t21 := by
    intro h9
    have h8 : tI t21 39 8 = tI t18 39 8 := by omega
    rw [h8, ht21, tA_uI]
    exact hs3 (by omega)
  refine w_aload rfl ?_
  refine w_aload rfl ?_
  refine w_getI (g_39_7 _) fe_39_7 ok21 (fun z22 hz22 hl22 hh22 => ?_)
  refine w_ine (by omega) (fun h23 => ?_) (fun h23 => ?_)
  · skip
    refine w_step rfl ?_
    refine w_aload rfl ?_
    refine w_getI (g_39_8 _) fe_39_8 ok21 (fun z24 hz24 hl24 hh24 => ?_)
    refine w_push kc_1 ?_
    refine w_add ?_
    refine w_goto ?_
    refine w_step rfl ?_
    refine w_putI (p_39_9 _) fe_39_9 ok21 (by omega) (fun t25 ht25 ok25 => ?_)
    have kf25_39_0 : tI t25 39 0 = tI t21 39 0 := by rw [ht25, tI_uI, if_neg (by decide)]
    have kf25_39_4 : tI t25 39 4 = tI t21 39 4 := by rw [ht25, tI_uI, if_neg (by decide)]
    have kf25_39_5 : tI t25 39 5 = tI t21 39 5 := by rw [ht25, tI_uI, if_neg (by decide)]
    have kf25_39_7 : tI t25 39 7 = tI t21 39 7 := by rw [ht25, tI_uI, if_neg (by decide)]
    have kf25_39_8 : tI t25 39 8 = tI t21 39 8 := by rw [ht25, tI_uI, if_neg (by decide)]
    have kf25_39_9 : tI t25 39 9 = (z24 + 1) := by rw [ht25, tI_uI, if_pos ⟨rfl, rfl⟩]
    have kf25_37_1 : tI t25 37 1 = tI t21 37 1 := by rw [ht25, tI_uI, if_neg (by decide)]
    have fr25 := fr21.uI ht25 (by simp)
    have lt : LTp t25 := by
      intro h9
      rw [ht25, tA_uI, tI_uI, if_neg (by decide)]
      exact lt (by omega)
    refine w_aload rfl ?_
    refine w_getI (g_39_7 _) fe_39_7 ok25 (fun z26 hz26 hl26 hh26 => ?_)
    refine w_push kc_1 ?_
    refine w_ceq (by omega) (fun h27 => ?_) (fun h27 => ?_)
    · skip
      have r9b := ok25.f fe_39_9
      exact c_X1_step_k8 (d := d) ok q0 97 _ bh ww t25 ok25 fr25 (by omega) (by omega) (by omega) (by omega) (by omega) (by omega) (by omega) (by omega) lt (by omega) (by omega)
    refine w_aload rfl ?_
    refine w_getI (g_39_7 _) fe_39_7 ok25 (fun z28 hz28 hl28 hh28 => ?_)
    refine w_push kc_2 ?_
    refine w_cne (by omega) (fun h29 => ?_) (fun h29 => ?_)
    · skip
      exact c_X1_step_k9 (d := d) ok q0  _ bh ww t25 ok25 fr25 (by omega) (by omega) (by omega) (by omega) (by omega) (by omega) (by omega) (by omega) (by omega) lt  (by omega)
    refine w_goto ?_
    have r9b := ok25.f fe_39_9
    exact c_X1_step_k8 (d := d) ok q0 97 _ bh ww t25 ok25 fr25 (by omega) (by omega) (by omega) (by omega) (by omega) (by omega) (by omega) (by omega) lt (by omega) (by omega)
  refine w_aload rfl ?_
  refine w_getI (g_39_8 _) fe_39_8 ok21 (fun z30 hz30 hl30 hh30 => ?_)
  refine w_goto ?_
  refine w_step rfl ?_
  refine w_putI (p_39_9 _) fe_39_9 ok21 (by omega) (fun t31 ht31 ok31 => ?_)
  have kf31_39_0 : tI t31 39 0 = tI t21 39 0 := by rw [ht31, tI_uI, if_neg (by decide)]
  have kf31_39_4 : tI t31 39 4 = tI t21 39 4 := by rw [ht31, tI_uI, if_neg (by decide)]
  have kf31_39_5 : tI t31 39 5 = tI t21 39 5 := by rw [ht31, tI_uI, if_neg (by decide)]
  have kf31_39_7 : tI t31 39 7 = tI t21 39 7 := by rw [ht31, tI_uI, if_neg (by decide)]
  have kf31_39_8 : tI t31 39 8 = tI t21 39 8 := by rw [ht31, tI_uI, if_neg (by decide)]
  have kf31_39_9 : tI t31 39 9 = z30 := by rw [ht31, tI_uI, if_pos ⟨rfl, rfl⟩]
  have kf31_37_1 : tI t31 37 1 = tI t21 37 1 := by rw [ht31, tI_uI, if_neg (by decide)]
  have fr31 := fr21.uI ht31 (by simp)
  have lt : LTp t31 := by
    intro h9
    rw [ht31, tA_uI, tI_uI, if_neg (by decide)]
    exact lt (by omega)
  refine w_aload rfl ?_
  refine w_getI (g_39_7 _) fe_39_7 ok31 (fun z32 hz32 hl32 hh32 => ?_)
  refine w_push kc_1 ?_
  refine w_ceq (by omega) (fun h33 => ?_) (fun h33 => ?_)
  · skip
    have r9b := ok31.f fe_39_9
    exact c_X1_step_k8 (d := d) ok q0 97 _ bh ww t31 ok31 fr31 (by omega) (by omega) (by omega) (by omega) (by omega) (by omega) (by omega) (by omega) lt (by omega) (by omega)
  refine w_aload rfl ?_
  refine w_getI (g_39_7 _) fe_39_7 ok31 (fun z34 hz34 hl34 hh34 => ?_)
  refine w_push kc_2 ?_
  refine w_cne (by omega) (fun h35 => ?_) (fun h35 => ?_)
  · skip
    exact c_X1_step_k9 (d := d) ok q0  _ bh ww t31 ok31 fr31 (by omega) (by omega) (by omega) (by omega) (by omega) (by omega) (by omega) (by omega) (by omega) lt  (by omega)
  refine w_goto ?_
  have r9b := ok31.f fe_39_9
  exact c_X1_step_k8 (d := d) ok q0 97 _ bh ww t31 ok31 fr31 (by omega) (by omega) (by omega) (by omega) (by omega) (by omega) (by omega) (by omega) lt (by omega) (by omega)
set_option maxRecDepth 100000 in
set_option maxHeartbeats 4000000 in
theorem c_X1_step_k4 {d : Nat} {t : TS}  (ok : OK t) (q0 : tI t 39 9 ≤ tI t 37 1) : ∀ (n4 M4 : Nat) (bh : Int) (ww : Int) (t36 : TS), OK t36 → Fr [(39, 7), (39, 8), (39, 9), (39, 10)] t t36 → (-2147483648 ≤ bh) → (bh ≤ 2147483647) → (0 ≤ ww) → (ww ≤ 1) → (tI t36 37 1 = tI t 37 1) → (tI t 39 9 ≤ tI t36 39 8) → (tI t36 39 8 ≤ tI t 37 1) → (tI t36 39 9 ≤ tI t 37 1) → 96 - tI t36 39 8 < (n4 : Int) → 60 * n4 + (50000) ≤ M4 → Rn (bX1_step (EX FU (d + 1))) M4 4 [some (.ref 39), some (.int (jI bh)), some (.int (jI ww))] [] (mk t36) (PV (fun t' => OK t' ∧ Fr [(39, 7), (39, 8), (39, 9), (39, 10)] t t' ∧ (tI t 39 9 ≤ tI t' 39 8) ∧ (tI t' 39 8 ≤ tI t' 39 9) ∧ (tI t' 39 9 ≤ tI t 37 1) ∧ (tI t' 39 7 ≤ 3 * (tI t' 39 9 - tI t' 39 8)) ∧ (LTp t'))) := by
  have r37 := ok.f fe_37_1
  have r9 := ok.f fe_39_9
  intro n4
  induction n4 with
  | zero => intro M4 bh ww t36 ok36 fr36 i4_0 i4_1 i4_2 i4_3 i4_4 i4_5 i4_6 i4_7 v4 f4; exfalso; omega
  | succ n4 ih4 =>
    intro M4 bh ww t36 ok36 fr36 i4_0 i4_1 i4_2 i4_3 i4_4 i4_5 i4_6 i4_7 v4 f4
    obtain ⟨M4, rfl⟩ : ∃ m, M4 = m + 60 := ⟨M4 - 60, by omega⟩
    refine w_step rfl ?_
    refine w_aload rfl ?_
    refine w_getI (g_39_8 _) fe_39_8 ok36 (fun z37 hz37 hl37 hh37 => ?_)
    refine w_aload rfl ?_
    refine w_getR (g_39_1 _) ?_
    refine w_getI (g_37_1 _) fe_37_1 ok36 (fun z38 hz38 hl38 hh38 => ?_)
    refine w_cge (by omega) (fun h39 => ?_) (fun h39 => ?_)
    · skip
      exact c_X1_step_k5 (d := d) ok q0  _ bh ww t36 ok36 fr36 (by omega) (by omega) (by omega) (by omega) (by omega) (by omega) (by omega)  (by omega)
    refine w_aload rfl ?_
    refine w_getR (g_39_1 _) ?_
    refine w_getR (g_37_0 _) ?_
    refine w_aload rfl ?_
    refine w_getI (g_39_8 _) fe_39_8 ok36 (fun z40 hz40 hl40 hh40 => ?_)
    refine w_iald (i := (z40).toNat) (ai_38 _) (by omega) (by omega) (ae_38 _) ok36 (fun z41 hz41 hl41 hh41 => ?_)
    refine w_push kc_32 ?_
    refine w_cne (by omega) (fun h42 => ?_) (fun h42 => ?_)
    · skip
      exact c_X1_step_k5 (d := d) ok q0  _ bh ww t36 ok36 fr36 (by omega) (by omega) (by omega) (by omega) (by omega) (by omega) (by omega)  (by omega)
    refine w_aload rfl ?_
    refine w_dupR ?_
    refine w_getI (g_39_8 _) fe_39_8 ok36 (fun z43 hz43 hl43 hh43 => ?_)
    refine w_push kc_1 ?_
    refine w_add ?_
    refine w_putI (p_39_8 _) fe_39_8 ok36 (by omega) (fun t44 ht44 ok44 => ?_)
    have kf44_39_0 : tI t44 39 0 = tI t36 39 0 := by rw [ht44, tI_uI, if_neg (by decide)]
    have kf44_39_4 : tI t44 39 4 = tI t36 39 4 := by rw [ht44, tI_uI, if_neg (by decide)]
    have kf44_39_5 : tI t44 39 5 = tI t36 39 5 := by rw [ht44, tI_uI, if_neg (by decide)]
    have kf44_39_7 : tI t44 39 7 = tI t36 39 7 := by rw [ht44, tI_uI, if_neg (by decide)]
    have kf44_39_8 : tI t44 39 8 = (z43 + 1) := by rw [ht44, tI_uI, if_pos ⟨rfl, rfl⟩]
    have kf44_39_9 : tI t44 39 9 = tI t36 39 9 := by rw [ht44, tI_uI, if_neg (by decide)]
    have kf44_37_1 : tI t44 37 1 = tI t36 37 1 := by rw [ht44, tI_uI, if_neg (by decide)]
    have fr44 := fr36.uI ht44 (by simp)
    refine w_goto ?_
    exact ih4 _ bh ww t44 ok44 fr44 (by omega) (by omega) (by omega) (by omega) (by omega) (by omega) (by omega) (by omega) (by omega) (by omega)
set_option maxRecDepth 100000 in
set_option maxHeartbeats 4000000 in
theorem c_X1_step {d : Nat} {t : TS}  (ok : OK t) (q0 : tI t 39 9 ≤ tI t 37 1) : CV (EX FU (d + 2)) 9 [.ref 39] (mk t) (fun t' => OK t' ∧ Fr [(39, 7), (39, 8), (39, 9), (39, 10)] t t' ∧ (tI t 39 9 ≤ tI t' 39 8) ∧ (tI t' 39 8 ≤ tI t' 39 9) ∧ (tI t' 39 9 ≤ tI t 37 1) ∧ (tI t' 39 7 ≤ 3 * (tI t' 39 9 - tI t' 39 8)) ∧ (LTp t')) := by
  refine CV_ent (d := d + 1) (Bk := bX1_step) (nL := 3) rfl rfl rfl (Nat.le_of_ble_eq_true rfl) ?_
  show Rn _ 1000000 0 [some (.ref 39), none, none] [] _ _
  have fr : Fr [(39, 7), (39, 8), (39, 9), (39, 10)] t t := Fr.rf _ _
  have r37 := ok.f fe_37_1
  have r9 := ok.f fe_39_9
  refine w_step rfl ?_
  refine w_aload rfl ?_
  refine w_getI (g_39_9 _) fe_39_9 ok (fun z45 hz45 hl45 hh45 => ?_)
  refine w_istore (lv' := [some (.ref 39), some (.int (jI z45)), none]) rfl ?_
  refine w_aload rfl ?_
  refine w_getI (g_39_7 _) fe_39_7 ok (fun z46 hz46 hl46 hh46 => ?_)
  refine w_push kc_1 ?_
  refine w_ceq (by omega) (fun h47 => ?_) (fun h47 => ?_)
  · skip
    refine w_step rfl ?_
    refine w_push kc_1 ?_
    refine w_goto ?_
    refine w_step rfl ?_
    refine w_istore (lv' := [some (.ref 39), some (.int (jI z45)), some (.int (jI 1))]) rfl ?_
    refine w_aload rfl ?_
    refine w_aload rfl ?_
    refine w_getI (g_39_9 _) fe_39_9 ok (fun z48 hz48 hl48 hh48 => ?_)
    refine w_putI (p_39_8 _) fe_39_8 ok (by omega) (fun t49 ht49 ok49 => ?_)
    have kf49_39_0 : tI t49 39 0 = tI t 39 0 := by rw [ht49, tI_uI, if_neg (by decide)]
    have kf49_39_4 : tI t49 39 4 = tI t 39 4 := by rw [ht49, tI_uI, if_neg (by decide)]
    have kf49_39_5 : tI t49 39 5 = tI t 39 5 := by rw [ht49, tI_uI, if_neg (by decide)]
    have kf49_39_7 : tI t49 39 7 = tI t 39 7 := by rw [ht49, tI_uI, if_neg (by decide)]
    have kf49_39_8 : tI t49 39 8 = z48 := by rw [ht49, tI_uI, if_pos ⟨rfl, rfl⟩]
    have kf49_39_9 : tI t49 39 9 = tI t 39 9 := by rw [ht49, tI_uI, if_neg (by decide)]
    have kf49_37_1 : tI t49 37 1 = tI t 37 1 := by rw [ht49, tI_uI, if_neg (by decide)]
    have fr49 := fr.uI ht49 (by simp)
    refine w_goto ?_
    have r8 := ok49.f fe_39_8
    exact c_X1_step_k4 (d := d) ok q0 97 _ z45 1 t49 ok49 fr49 (by omega) (by omega) (by omega) (by omega) (by omega) (by omega) (by omega) (by omega) (by omega) (by omega)
  refine w_aload rfl ?_
  refine w_getI (g_39_7 _) fe_39_7 ok (fun z50 hz50 hl50 hh50 => ?_)
  refine w_push kc_2 ?_
  refine w_cne (by omega) (fun h51 => ?_) (fun h51 => ?_)
  · skip
    refine w_step rfl ?_
    refine w_push kc_0 ?_
    refine w_goto ?_
    refine w_step rfl ?_
    refine w_istore (lv' := [some (.ref 39), some (.int (jI z45)), some (.int (jI 0))]) rfl ?_
    refine w_aload rfl ?_
    refine w_aload rfl ?_
    refine w_getI (g_39_9 _) fe_39_9 ok (fun z52 hz52 hl52 hh52 => ?_)
    refine w_putI (p_39_8 _) fe_39_8 ok (by omega) (fun t53 ht53 ok53 => ?_)
    have kf53_39_0 : tI t53 39 0 = tI t 39 0 := by rw [ht53, tI_uI, if_neg (by decide)]
    have kf53_39_4 : tI t53 39 4 = tI t 39 4 := by rw [ht53, tI_uI, if_neg (by decide)]
    have kf53_39_5 : tI t53 39 5 = tI t 39 5 := by rw [ht53, tI_uI, if_neg (by decide)]
    have kf53_39_7 : tI t53 39 7 = tI t 39 7 := by rw [ht53, tI_uI, if_neg (by decide)]
    have kf53_39_8 : tI t53 39 8 = z52 := by rw [ht53, tI_uI, if_pos ⟨rfl, rfl⟩]
    have kf53_39_9 : tI t53 39 9 = tI t 39 9 := by rw [ht53, tI_uI, if_neg (by decide)]
    have kf53_37_1 : tI t53 37 1 = tI t 37 1 := by rw [ht53, tI_uI, if_neg (by decide)]
    have fr53 := fr.uI ht53 (by simp)
    refine w_goto ?_
    have r8 := ok53.f fe_39_8
    exact c_X1_step_k4 (d := d) ok q0 97 _ z45 0 t53 ok53 fr53 (by omega) (by omega) (by omega) (by omega) (by omega) (by omega) (by omega) (by omega) (by omega) (by omega)
  refine w_goto ?_
  refine w_step rfl ?_
  refine w_push kc_1 ?_
  refine w_goto ?_
  refine w_step rfl ?_
  refine w_istore (lv' := [some (.ref 39), some (.int (jI z45)), some (.int (jI 1))]) rfl ?_
  refine w_aload rfl ?_
  refine w_aload rfl ?_
  refine w_getI (g_39_9 _) fe_39_9 ok (fun z54 hz54 hl54 hh54 => ?_)
  refine w_putI (p_39_8 _) fe_39_8 ok (by omega) (fun t55 ht55 ok55 => ?_)
  have kf55_39_0 : tI t55 39 0 = tI t 39 0 := by rw [ht55, tI_uI, if_neg (by decide)]
  have kf55_39_4 : tI t55 39 4 = tI t 39 4 := by rw [ht55, tI_uI, if_neg (by decide)]
  have kf55_39_5 : tI t55 39 5 = tI t 39 5 := by rw [ht55, tI_uI, if_neg (by decide)]
  have kf55_39_7 : tI t55 39 7 = tI t 39 7 := by rw [ht55, tI_uI, if_neg (by decide)]
  have kf55_39_8 : tI t55 39 8 = z54 := by rw [ht55, tI_uI, if_pos ⟨rfl, rfl⟩]
  have kf55_39_9 : tI t55 39 9 = tI t 39 9 := by rw [ht55, tI_uI, if_neg (by decide)]
  have kf55_37_1 : tI t55 37 1 = tI t 37 1 := by rw [ht55, tI_uI, if_neg (by decide)]
  have fr55 := fr.uI ht55 (by simp)
  refine w_goto ?_
  have r8 := ok55.f fe_39_8
  exact c_X1_step_k4 (d := d) ok q0 97 _ z45 1 t55 ok55 fr55 (by omega) (by omega) (by omega) (by omega) (by omega) (by omega) (by omega) (by omega) (by omega) (by omega)
set_option maxRecDepth 100000 in
set_option maxHeartbeats 4000000 in
theorem c_X1_begin {d : Nat} {t : TS}  (ok : OK t) : CV (EX FU (d + 3)) 6 [.ref 39] (mk t) (fun t' => OK t' ∧ Fr [(39, 0), (39, 4), (39, 5), (39, 7), (39, 8), (39, 9), (39, 10)] t t' ∧ (tI t' 39 8 ≤ tI t' 39 9) ∧ (tI t' 39 9 ≤ tI t 37 1) ∧ (tI t' 39 7 ≤ 3 * (tI t' 39 9 - tI t' 39 8)) ∧ (tI t' 39 4 = 0) ∧ (tI t' 39 5 = 0) ∧ (tI t' 39 0 = -1)) := by
  refine CV_ent (d := d + 2) (Bk := bX1_begin) (nL := 1) rfl rfl rfl (Nat.le_of_ble_eq_true rfl) ?_
  show Rn _ 1000000 0 [some (.ref 39)] [] _ _
  have fr : Fr [(39, 0), (39, 4), (39, 5), (39, 7), (39, 8), (39, 9), (39, 10)] t t := Fr.rf _ _
  have r37 := ok.f fe_37_1
  refine w_step rfl ?_
  refine w_aload rfl ?_
  refine w_push kc_m1 ?_
  refine w_putI (p_39_0 _) fe_39_0 ok (by omega) (fun t1 ht1 ok1 => ?_)
  have kf1_39_0 : tI t1 39 0 = (-1) := by rw [ht1, tI_uI, if_pos ⟨rfl, rfl⟩]
  have kf1_39_4 : tI t1 39 4 = tI t 39 4 := by rw [ht1, tI_uI, if_neg (by decide)]
  have kf1_39_5 : tI t1 39 5 = tI t 39 5 := by rw [ht1, tI_uI, if_neg (by decide)]
  have kf1_39_7 : tI t1 39 7 = tI t 39 7 := by rw [ht1, tI_uI, if_neg (by decide)]
  have kf1_39_8 : tI t1 39 8 = tI t 39 8 := by rw [ht1, tI_uI, if_neg (by decide)]
  have kf1_39_9 : tI t1 39 9 = tI t 39 9 := by rw [ht1, tI_uI, if_neg (by decide)]
  have kf1_37_1 : tI t1 37 1 = tI t 37 1 := by rw [ht1, tI_uI, if_neg (by decide)]
  have fr1 := fr.uI ht1 (by simp)
  refine w_aload rfl ?_
  refine w_push kc_0 ?_
  refine w_putI (p_39_4 _) fe_39_4 ok1 (by omega) (fun t2 ht2 ok2 => ?_)
  have kf2_39_0 : tI t2 39 0 = tI t1 39 0 := by rw [ht2, tI_uI, if_neg (by decide)]
  have kf2_39_4 : tI t2 39 4 = 0 := by rw [ht2, tI_uI, if_pos ⟨rfl, rfl⟩]
  have kf2_39_5 : tI t2 39 5 = tI t1 39 5 := by rw [ht2, tI_uI, if_neg (by decide)]
  have kf2_39_7 : tI t2 39 7 = tI t1 39 7 := by rw [ht2, tI_uI, if_neg (by decide)]
  have kf2_39_8 : tI t2 39 8 = tI t1 39 8 := by rw [ht2, tI_uI, if_neg (by decide)]
  have kf2_39_9 : tI t2 39 9 = tI t1 39 9 := by rw [ht2, tI_uI, if_neg (by decide)]
  have kf2_37_1 : tI t2 37 1 = tI t1 37 1 := by rw [ht2, tI_uI, if_neg (by decide)]
  have fr2 := fr1.uI ht2 (by simp)
  refine w_aload rfl ?_
  refine w_push kc_0 ?_
  refine w_putI (p_39_5 _) fe_39_5 ok2 (by omega) (fun t3 ht3 ok3 => ?_)
  have kf3_39_0 : tI t3 39 0 = tI t2 39 0 := by rw [ht3, tI_uI, if_neg (by decide)]
  have kf3_39_4 : tI t3 39 4 = tI t2 39 4 := by rw [ht3, tI_uI, if_neg (by decide)]
  have kf3_39_5 : tI t3 39 5 = 0 := by rw [ht3, tI_uI, if_pos ⟨rfl, rfl⟩]
  have kf3_39_7 : tI t3 39 7 = tI t2 39 7 := by rw [ht3, tI_uI, if_neg (by decide)]
  have kf3_39_8 : tI t3 39 8 = tI t2 39 8 := by rw [ht3, tI_uI, if_neg (by decide)]
  have kf3_39_9 : tI t3 39 9 = tI t2 39 9 := by rw [ht3, tI_uI, if_neg (by decide)]
  have kf3_37_1 : tI t3 37 1 = tI t2 37 1 := by rw [ht3, tI_uI, if_neg (by decide)]
  have fr3 := fr2.uI ht3 (by simp)
  refine w_aload rfl ?_
  refine w_push kc_3 ?_
  refine w_putI (p_39_7 _) fe_39_7 ok3 (by omega) (fun t4 ht4 ok4 => ?_)
  have kf4_39_0 : tI t4 39 0 = tI t3 39 0 := by rw [ht4, tI_uI, if_neg (by decide)]
  have kf4_39_4 : tI t4 39 4 = tI t3 39 4 := by rw [ht4, tI_uI, if_neg (by decide)]
  have kf4_39_5 : tI t4 39 5 = tI t3 39 5 := by rw [ht4, tI_uI, if_neg (by decide)]
  have kf4_39_7 : tI t4 39 7 = 3 := by rw [ht4, tI_uI, if_pos ⟨rfl, rfl⟩]
  have kf4_39_8 : tI t4 39 8 = tI t3 39 8 := by rw [ht4, tI_uI, if_neg (by decide)]
  have kf4_39_9 : tI t4 39 9 = tI t3 39 9 := by rw [ht4, tI_uI, if_neg (by decide)]
  have kf4_37_1 : tI t4 37 1 = tI t3 37 1 := by rw [ht4, tI_uI, if_neg (by decide)]
  have fr4 := fr3.uI ht4 (by simp)
  refine w_aload rfl ?_
  refine w_push kc_0 ?_
  refine w_putI (p_39_9 _) fe_39_9 ok4 (by omega) (fun t5 ht5 ok5 => ?_)
  have kf5_39_0 : tI t5 39 0 = tI t4 39 0 := by rw [ht5, tI_uI, if_neg (by decide)]
  have kf5_39_4 : tI t5 39 4 = tI t4 39 4 := by rw [ht5, tI_uI, if_neg (by decide)]
  have kf5_39_5 : tI t5 39 5 = tI t4 39 5 := by rw [ht5, tI_uI, if_neg (by decide)]
  have kf5_39_7 : tI t5 39 7 = tI t4 39 7 := by rw [ht5, tI_uI, if_neg (by decide)]
  have kf5_39_8 : tI t5 39 8 = tI t4 39 8 := by rw [ht5, tI_uI, if_neg (by decide)]
  have kf5_39_9 : tI t5 39 9 = 0 := by rw [ht5, tI_uI, if_pos ⟨rfl, rfl⟩]
  have kf5_37_1 : tI t5 37 1 = tI t4 37 1 := by rw [ht5, tI_uI, if_neg (by decide)]
  have fr5 := fr4.uI ht5 (by simp)
  refine w_aload rfl ?_
  refine w_callV0V (oj_39 _).choose_spec rfl (c_X1_step ok5 (by omega)) ?_
  rintro t6 ⟨ok6, fq6, hp6_0, hp6_1, hp6_2, hp6_3, hp6_4⟩
  have fr6 := fr5.then fq6 (by simp)
  have kf6_39_0 : tI t6 39 0 = tI t5 39 0 := fq6.1 39 0 (by simp)
  have kf6_39_4 : tI t6 39 4 = tI t5 39 4 := fq6.1 39 4 (by simp)
  have kf6_39_5 : tI t6 39 5 = tI t5 39 5 := fq6.1 39 5 (by simp)
  have kf6_37_1 : tI t6 37 1 = tI t5 37 1 := fq6.1 37 1 (by simp)
  refine w_retV ?_
  exact ⟨ok6, fr6, (by omega), (by omega), (by omega), (by omega), (by omega), (by omega)⟩
set_option maxRecDepth 100000 in
set_option maxHeartbeats 4000000 in
theorem c_X1_emit {d : Nat} {t : TS} {s v : Int}  (ok : OK t) (q0 : 0 ≤ s) (q1 : s ≤ 255) (q2 : -2147483648 ≤ v) (q3 : v ≤ 2147483647) : CV (EX FU (d + 1)) 19 [.ref 39, .int (jI s), .int (jI v)] (mk t) (fun t' => OK t' ∧ Fr [(39, 4), (40, 100), (41, 100)] t t' ∧ (tI t' 39 4 ≤ tI t 39 4 + 1) ∧ (tI t 39 4 ≤ tI t' 39 4)) := by
  refine CV_ent (d := d + 0) (Bk := bX1_emit) (nL := 3) rfl rfl rfl (Nat.le_of_ble_eq_true rfl) ?_
  show Rn _ 1000000 0 [some (.ref 39), some (.int (jI s)), some (.int (jI v))] [] _ _
  have fr : Fr [(39, 4), (40, 100), (41, 100)] t t := Fr.rf _ _
  refine w_step rfl ?_
  refine w_aload rfl ?_
  refine w_getI (g_39_4 _) fe_39_4 ok (fun z1 hz1 hl1 hh1 => ?_)
  refine w_push kc_96 ?_
  refine w_cge (by omega) (fun h2 => ?_) (fun h2 => ?_)
  · skip
    refine w_step rfl ?_
    refine w_retV ?_
    exact ⟨ok, fr, (by omega), (by omega)⟩
  refine w_aload rfl ?_
  refine w_getR (g_39_2 _) ?_
  refine w_aload rfl ?_
  refine w_getI (g_39_4 _) fe_39_4 ok (fun z3 hz3 hl3 hh3 => ?_)
  refine w_iload rfl ?_
  refine w_iast (i := (z3).toNat) (ai_40 _) rfl (by omega) (by omega) (ae_40 _) ok (by omega) (fun t4 ht4 ok4 => ?_)
  have kf4_39_4 : tI t4 39 4 = tI t 39 4 := by rw [ht4]; rfl
  have fr4 := fr.uA ht4 (by simp)
  refine w_aload rfl ?_
  refine w_getR (g_39_3 _) ?_
  refine w_aload rfl ?_
  refine w_getI (g_39_4 _) fe_39_4 ok4 (fun z5 hz5 hl5 hh5 => ?_)
  refine w_iload rfl ?_
  refine w_iast (i := (z5).toNat) (ai_41 _) rfl (by omega) (by omega) (ae_41 _) ok4 (by omega) (fun t6 ht6 ok6 => ?_)
  have kf6_39_4 : tI t6 39 4 = tI t4 39 4 := by rw [ht6]; rfl
  have fr6 := fr4.uA ht6 (by simp)
  refine w_aload rfl ?_
  refine w_dupR ?_
  refine w_getI (g_39_4 _) fe_39_4 ok6 (fun z7 hz7 hl7 hh7 => ?_)
  refine w_push kc_1 ?_
  refine w_add ?_
  refine w_putI (p_39_4 _) fe_39_4 ok6 (by omega) (fun t8 ht8 ok8 => ?_)
  have kf8_39_4 : tI t8 39 4 = (z7 + 1) := by rw [ht8, tI_uI, if_pos ⟨rfl, rfl⟩]
  have fr8 := fr6.uI ht8 (by simp)
  refine w_goto ?_
  refine w_step rfl ?_
  refine w_retV ?_
  exact ⟨ok8, fr8, (by omega), (by omega)⟩
set_option maxRecDepth 100000 in
set_option maxHeartbeats 4000000 in
theorem c_X1_numberAtHand {d : Nat} {t : TS}  (ok : OK t) (q0 : tI t 39 9 ≤ tI t 37 1) : CI (EX FU (d + 1)) 17 [.ref 39] (mk t) (fun z t' => t = t' ∧ (-2147483648 ≤ z) ∧ (z ≤ 2147483647)) := by
  refine CI_ent (d := d + 0) (Bk := bX1_numberAtHand) (nL := 3) rfl rfl rfl (Nat.le_of_ble_eq_true rfl) ?_
  show Rn _ 1000000 0 [some (.ref 39), none, none] [] _ _
  have r37 := ok.f fe_37_1
  have r8 := ok.f fe_39_8
  refine w_step rfl ?_
  refine w_push kc_0 ?_
  refine w_istore (lv' := [some (.ref 39), some (.int (jI 0)), none]) rfl ?_
  refine w_aload rfl ?_
  refine w_getI (g_39_8 _) fe_39_8 ok (fun z1 hz1 hl1 hh1 => ?_)
  refine w_istore (lv' := [some (.ref 39), some (.int (jI 0)), some (.int (jI z1))]) rfl ?_
  refine w_goto ?_
  have key1 : ∀ (n1 M1 : Nat) (n : Int) (i : Int), (-2147483648 ≤ n) → (n ≤ 2147483647) → (0 ≤ i) → (i ≤ 96) → 96 - i < (n1 : Int) → 60 * n1 + (1000) ≤ M1 → Rn (bX1_numberAtHand (EX FU (d + 0))) M1 1 [some (.ref 39), some (.int (jI n)), some (.int (jI i))] [] (mk t) (PI (fun z t' => t = t' ∧ (-2147483648 ≤ z) ∧ (z ≤ 2147483647))) := by
    intro n1
    induction n1 with
    | zero => intro M1 n i i1_0 i1_1 i1_2 i1_3 v1 f1; exfalso; omega
    | succ n1 ih1 =>
      intro M1 n i i1_0 i1_1 i1_2 i1_3 v1 f1
      obtain ⟨M1, rfl⟩ : ∃ m, M1 = m + 60 := ⟨M1 - 60, by omega⟩
      refine w_step rfl ?_
      refine w_iload rfl ?_
      refine w_aload rfl ?_
      refine w_getI (g_39_9 _) fe_39_9 ok (fun z2 hz2 hl2 hh2 => ?_)
      refine w_cge (by omega) (fun h3 => ?_) (fun h3 => ?_)
      · skip
        refine w_step rfl ?_
        refine w_iload rfl ?_
        refine w_retI rfl ?_
        exact ⟨rfl, (by omega), (by omega)⟩
      refine w_push kc_10 ?_
      refine w_iload rfl ?_
      refine w_mulW (fun z4 hz4 hl4 hh4 => ?_)
      refine w_aload rfl ?_
      refine w_getR (g_39_1 _) ?_
      refine w_getR (g_37_0 _) ?_
      refine w_iload rfl ?_
      refine w_iald (i := (i).toNat) (ai_38 _) (by omega) (by omega) (ae_38 _) ok (fun z5 hz5 hl5 hh5 => ?_)
      refine w_addW (fun z6 hz6 hl6 hh6 => ?_)
      refine w_push kc_48 ?_
      refine w_subW (fun z7 hz7 hl7 hh7 => ?_)
      refine w_istore (lv' := [some (.ref 39), some (.int (jI z7)), some (.int (jI i))]) rfl ?_
      refine w_iinc (lv' := [some (.ref 39), some (.int (jI z7)), some (.int (jI (i + 1)))]) kc_1 rfl rfl ?_
      refine w_goto ?_
      exact ih1 _ z7 (i + 1)  (by omega) (by omega) (by omega) (by omega) (by omega) (by omega)
  exact key1 97 _ 0 z1  (by omega) (by omega) (by omega) (by omega) (by omega) (by omega)
