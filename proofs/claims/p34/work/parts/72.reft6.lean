theorem WF_add {t u : TS} {T c : Nat} {f : Nat → Int} (h : WF t 69) (hT : tA t 69 4 = (T : Int)) (h4 : tA u 69 4 = (T : Int) + 1) (hk : tA u 69 (89 + 2 * T) % 1000 = (c : Int)) (hc : c ≤ 96) (hw : wfC f c) (hf : ∀ j, j < c → tA u 69 (117 + 96 * T + j) = f j) (hT14 : T < 14) (ho : ∀ i, (89 ≤ i ∧ i < 117 ∧ ¬ i = 89 + 2 * T ∧ ¬ i = 90 + 2 * T) ∨ (117 ≤ i ∧ (i < 117 + 96 * T ∨ 213 + 96 * T ≤ i)) → tA u 69 i = tA t 69 i) : WF u 69 := by
  intro k hk2
  rw [h4] at hk2
  by_cases e : k = T
  · subst e
    rw [hk]
    refine ⟨by omega, ?_⟩
    rw [show ((c : Int)).toNat = c by omega]
    exact wfC_congr (fun j hj => (hf j hj).symm) hw
  · have hlt : (k : Int) < tA t 69 4 := by omega
    obtain ⟨h1, h2⟩ := h k hlt
    rw [ho (89 + 2 * k) (Or.inl ⟨by omega, by omega, by omega, by omega⟩)]
    refine ⟨h1, wfC_congr (fun j hj => (ho _ (Or.inr ⟨by omega, by omega⟩)).symm) h2⟩
set_option maxRecDepth 100000 in
set_option maxHeartbeats 4000000 in
theorem c_X9_text {d : Nat} {t : TS}  (ok : OK t) (q0 : WF t 69) : CI (EX FU (d + 5)) 200 [.ref 68] (mk t) (fun z t' => OK t' ∧ Fr [(68, 10), (68, 11), (68, 12), (68, 13), (68, 14), (68, 9), (68, 15), (68, 19), (68, 20), (68, 22), (69, 100), (78, 100), (79, 100), (80, 100)] t t' ∧ (-2147483648 ≤ z) ∧ (z ≤ 2147483647) ∧ (tI t' 68 9 = 0) ∧ (WF t' 69) ∧ (∀ i, ¬ i = 4 → i < 89 → tA t' 69 i = tA t 69 i)) := by
  refine CI_ent (d := d + 4) (Bk := bX9_text) (nL := 4) rfl rfl rfl (Nat.le_of_ble_eq_true rfl) ?_
  show Rn _ 1000000 0 [some (.ref 68), none, none, none] [] _ _
  have fr : Fr [(68, 10), (68, 11), (68, 12), (68, 13), (68, 14), (68, 9), (68, 15), (68, 19), (68, 20), (68, 22), (69, 100), (78, 100), (79, 100), (80, 100)] t t := Fr.rf _ _
  have r9 := ok.f fe_68_9
  have r4 := ok.a (ax_69 nr_4)
  refine w_step rfl ?_
  refine w_aload rfl ?_
  refine w_push kc_0 ?_
  refine w_putI (p_68_10 _) fe_68_10 ok (by omega) (fun t1 ht1 ok1 => ?_)
  have kf1_68_9 : tI t1 68 9 = tI t 68 9 := by rw [ht1, tI_uI, if_neg (by decide)]
  have kf1_68_10 : tI t1 68 10 = 0 := by rw [ht1, tI_uI, if_pos ⟨rfl, rfl⟩]
  have kf1_68_11 : tI t1 68 11 = tI t 68 11 := by rw [ht1, tI_uI, if_neg (by decide)]
  have kf1_68_12 : tI t1 68 12 = tI t 68 12 := by rw [ht1, tI_uI, if_neg (by decide)]
  have kf1_68_13 : tI t1 68 13 = tI t 68 13 := by rw [ht1, tI_uI, if_neg (by decide)]
  have kf1_68_14 : tI t1 68 14 = tI t 68 14 := by rw [ht1, tI_uI, if_neg (by decide)]
  have kf1_68_19 : tI t1 68 19 = tI t 68 19 := by rw [ht1, tI_uI, if_neg (by decide)]
  have kf1_68_20 : tI t1 68 20 = tI t 68 20 := by rw [ht1, tI_uI, if_neg (by decide)]
  have kf1_68_22 : tI t1 68 22 = tI t 68 22 := by rw [ht1, tI_uI, if_neg (by decide)]
  have kf1_68_15 : tI t1 68 15 = tI t 68 15 := by rw [ht1, tI_uI, if_neg (by decide)]
  have fr1 := fr.uI ht1 (by simp)
  have f69 : ∀ i, tA t1 69 i = tA t 69 i := fun i => by rw [ht1, tA_uI]
  refine w_aload rfl ?_
  refine w_push kc_m1 ?_
  refine w_putI (p_68_14 _) fe_68_14 ok1 (by omega) (fun t2 ht2 ok2 => ?_)
  have kf2_68_9 : tI t2 68 9 = tI t1 68 9 := by rw [ht2, tI_uI, if_neg (by decide)]
  have kf2_68_10 : tI t2 68 10 = tI t1 68 10 := by rw [ht2, tI_uI, if_neg (by decide)]
  have kf2_68_11 : tI t2 68 11 = tI t1 68 11 := by rw [ht2, tI_uI, if_neg (by decide)]
  have kf2_68_12 : tI t2 68 12 = tI t1 68 12 := by rw [ht2, tI_uI, if_neg (by decide)]
  have kf2_68_13 : tI t2 68 13 = tI t1 68 13 := by rw [ht2, tI_uI, if_neg (by decide)]
  have kf2_68_14 : tI t2 68 14 = (-1) := by rw [ht2, tI_uI, if_pos ⟨rfl, rfl⟩]
  have kf2_68_19 : tI t2 68 19 = tI t1 68 19 := by rw [ht2, tI_uI, if_neg (by decide)]
  have kf2_68_20 : tI t2 68 20 = tI t1 68 20 := by rw [ht2, tI_uI, if_neg (by decide)]
  have kf2_68_22 : tI t2 68 22 = tI t1 68 22 := by rw [ht2, tI_uI, if_neg (by decide)]
  have kf2_68_15 : tI t2 68 15 = tI t1 68 15 := by rw [ht2, tI_uI, if_neg (by decide)]
  have fr2 := fr1.uI ht2 (by simp)
  have f69 : ∀ i, tA t2 69 i = tA t 69 i := fun i => by rw [ht2, tA_uI]; exact f69 i
  refine w_aload rfl ?_
  refine w_callV0V (oj_68 _).choose_spec rfl (c_X9_go ok2 (by omega)) ?_
  rintro t3 ⟨ok3, fq3, hp3_0, hp3_1, hp3_2, hp3_3, hp3_4⟩
  have fr3 := fr2.then fq3 (by simp)
  have kf3_68_9 : tI t3 68 9 = tI t2 68 9 := fq3.1 68 9 (by simp)
  have kf3_68_19 : tI t3 68 19 = tI t2 68 19 := fq3.1 68 19 (by simp)
  have kf3_68_20 : tI t3 68 20 = tI t2 68 20 := fq3.1 68 20 (by simp)
  have kf3_68_22 : tI t3 68 22 = tI t2 68 22 := fq3.1 68 22 (by simp)
  have kf3_68_15 : tI t3 68 15 = tI t2 68 15 := fq3.1 68 15 (by simp)
  have f69 : ∀ i, tA t3 69 i = tA t 69 i := fun i => (fq3.2.1 69 (by simp) i).trans (f69 i)
  refine w_aload rfl ?_
  refine w_callV0I (oj_68 _).choose_spec rfl (c_X9_takesKey ok3 (by omega) (by omega)) ?_
  rintro z4 t4 ⟨ok4, fq4, hp4_0, hp4_1, hp4_2, hp4_3, hp4_4, hp4_5, hp4_6⟩
  have fr4 := fr3.then fq4 (by simp)
  have kf4_68_9 : tI t4 68 9 = tI t3 68 9 := fq4.1 68 9 (by simp)
  have kf4_68_19 : tI t4 68 19 = tI t3 68 19 := fq4.1 68 19 (by simp)
  have kf4_68_20 : tI t4 68 20 = tI t3 68 20 := fq4.1 68 20 (by simp)
  have kf4_68_22 : tI t4 68 22 = tI t3 68 22 := fq4.1 68 22 (by simp)
  have f69 : ∀ i, tA t4 69 i = tA t 69 i := fun i => (fq4.2.1 69 (by simp) i).trans (f69 i)
  refine w_ieq (by omega) (fun h5 => ?_) (fun h5 => ?_)
  · skip
    refine w_step rfl ?_
    refine w_push kc_0 ?_
    refine w_goto ?_
    refine w_step rfl ?_
    refine w_istore (lv' := [some (.ref 68), some (.int (jI 0)), none, none]) rfl ?_
    refine w_aload rfl ?_
    refine w_push kc_0 ?_
    refine w_putI (p_68_9 _) fe_68_9 ok4 (by omega) (fun t6 ht6 ok6 => ?_)
    have kf6_68_9 : tI t6 68 9 = 0 := by rw [ht6, tI_uI, if_pos ⟨rfl, rfl⟩]
    have kf6_68_10 : tI t6 68 10 = tI t4 68 10 := by rw [ht6, tI_uI, if_neg (by decide)]
    have kf6_68_11 : tI t6 68 11 = tI t4 68 11 := by rw [ht6, tI_uI, if_neg (by decide)]
    have kf6_68_12 : tI t6 68 12 = tI t4 68 12 := by rw [ht6, tI_uI, if_neg (by decide)]
    have kf6_68_13 : tI t6 68 13 = tI t4 68 13 := by rw [ht6, tI_uI, if_neg (by decide)]
    have kf6_68_14 : tI t6 68 14 = tI t4 68 14 := by rw [ht6, tI_uI, if_neg (by decide)]
    have kf6_68_19 : tI t6 68 19 = tI t4 68 19 := by rw [ht6, tI_uI, if_neg (by decide)]
    have kf6_68_20 : tI t6 68 20 = tI t4 68 20 := by rw [ht6, tI_uI, if_neg (by decide)]
    have kf6_68_22 : tI t6 68 22 = tI t4 68 22 := by rw [ht6, tI_uI, if_neg (by decide)]
    have kf6_68_15 : tI t6 68 15 = tI t4 68 15 := by rw [ht6, tI_uI, if_neg (by decide)]
    have fr6 := fr4.uI ht6 (by simp)
    have e9 := ht6
    have e69 : ∀ i, tA t6 69 i = tA t 69 i := fun i => by rw [ht6, tA_uI]; exact f69 i
    refine w_iload rfl ?_
    refine w_ine (by omega) (fun h => absurd h (by omega)) (fun _ => ?_)
    refine w_push kc_m100 ?_
    refine w_aload rfl ?_
    refine w_getI (g_68_11 _) fe_68_11 ok6 (fun z7 hz7 hl7 hh7 => ?_)
    refine w_sub ?_
    refine w_retI rfl ?_
    exact ⟨ok6, fr6, (by omega), (by omega), (by omega), (by first | exact (q0.same (fun i _ => e69 i)) | exact eF), (by first | exact (fun i _ _ => e69 i) | exact eG)⟩
  refine w_aload rfl ?_
  refine w_callV0I (oj_68 _).choose_spec rfl (c_X9_takesE ok4 (by omega) (by omega) (by omega) (by omega) (by omega)) ?_
  rintro z8 t8 ⟨ok8, fq8, hp8_0, hp8_1, hp8_2, hp8_3⟩
  have fr8 := fr4.then fq8 (by simp)
  have kf8_68_9 : tI t8 68 9 = tI t4 68 9 := fq8.1 68 9 (by simp)
  have kf8_68_15 : tI t8 68 15 = tI t4 68 15 := fq8.1 68 15 (by simp)
  have eW := hp8_2
  have f69 : ∀ i, tA t8 69 i = tA t 69 i := fun i => (fq8.2.1 69 (by simp) i).trans (f69 i)
  refine w_ieq (by omega) (fun h9 => ?_) (fun h9 => ?_)
  · skip
    refine w_step rfl ?_
    refine w_push kc_0 ?_
    refine w_goto ?_
    refine w_step rfl ?_
    refine w_istore (lv' := [some (.ref 68), some (.int (jI 0)), none, none]) rfl ?_
    refine w_aload rfl ?_
    refine w_push kc_0 ?_
    refine w_putI (p_68_9 _) fe_68_9 ok8 (by omega) (fun t10 ht10 ok10 => ?_)
    have kf10_68_9 : tI t10 68 9 = 0 := by rw [ht10, tI_uI, if_pos ⟨rfl, rfl⟩]
    have kf10_68_10 : tI t10 68 10 = tI t8 68 10 := by rw [ht10, tI_uI, if_neg (by decide)]
    have kf10_68_11 : tI t10 68 11 = tI t8 68 11 := by rw [ht10, tI_uI, if_neg (by decide)]
    have kf10_68_12 : tI t10 68 12 = tI t8 68 12 := by rw [ht10, tI_uI, if_neg (by decide)]
    have kf10_68_13 : tI t10 68 13 = tI t8 68 13 := by rw [ht10, tI_uI, if_neg (by decide)]
    have kf10_68_14 : tI t10 68 14 = tI t8 68 14 := by rw [ht10, tI_uI, if_neg (by decide)]
    have kf10_68_19 : tI t10 68 19 = tI t8 68 19 := by rw [ht10, tI_uI, if_neg (by decide)]
    have kf10_68_20 : tI t10 68 20 = tI t8 68 20 := by rw [ht10, tI_uI, if_neg (by decide)]
    have kf10_68_22 : tI t10 68 22 = tI t8 68 22 := by rw [ht10, tI_uI, if_neg (by decide)]
    have kf10_68_15 : tI t10 68 15 = tI t8 68 15 := by rw [ht10, tI_uI, if_neg (by decide)]
    have fr10 := fr8.uI ht10 (by simp)
    have e9 := ht10
    have e69 : ∀ i, tA t10 69 i = tA t 69 i := fun i => by rw [ht10, tA_uI]; exact f69 i
    refine w_iload rfl ?_
    refine w_ine (by omega) (fun h => absurd h (by omega)) (fun _ => ?_)
    refine w_push kc_m100 ?_
    refine w_aload rfl ?_
    refine w_getI (g_68_11 _) fe_68_11 ok10 (fun z11 hz11 hl11 hh11 => ?_)
    refine w_sub ?_
    refine w_retI rfl ?_
    exact ⟨ok10, fr10, (by omega), (by omega), (by omega), (by first | exact (q0.same (fun i _ => e69 i)) | exact eF), (by first | exact (fun i _ _ => e69 i) | exact eG)⟩
  refine w_push kc_1 ?_
  refine w_goto ?_
  refine w_step rfl ?_
  refine w_istore (lv' := [some (.ref 68), some (.int (jI 1)), none, none]) rfl ?_
  refine w_aload rfl ?_
  refine w_push kc_0 ?_
  refine w_putI (p_68_9 _) fe_68_9 ok8 (by omega) (fun t12 ht12 ok12 => ?_)
  have kf12_68_9 : tI t12 68 9 = 0 := by rw [ht12, tI_uI, if_pos ⟨rfl, rfl⟩]
  have kf12_68_10 : tI t12 68 10 = tI t8 68 10 := by rw [ht12, tI_uI, if_neg (by decide)]
  have kf12_68_11 : tI t12 68 11 = tI t8 68 11 := by rw [ht12, tI_uI, if_neg (by decide)]
  have kf12_68_12 : tI t12 68 12 = tI t8 68 12 := by rw [ht12, tI_uI, if_neg (by decide)]
  have kf12_68_13 : tI t12 68 13 = tI t8 68 13 := by rw [ht12, tI_uI, if_neg (by decide)]
  have kf12_68_14 : tI t12 68 14 = tI t8 68 14 := by rw [ht12, tI_uI, if_neg (by decide)]
  have kf12_68_19 : tI t12 68 19 = tI t8 68 19 := by rw [ht12, tI_uI, if_neg (by decide)]
  have kf12_68_20 : tI t12 68 20 = tI t8 68 20 := by rw [ht12, tI_uI, if_neg (by decide)]
  have kf12_68_22 : tI t12 68 22 = tI t8 68 22 := by rw [ht12, tI_uI, if_neg (by decide)]
  have kf12_68_15 : tI t12 68 15 = tI t8 68 15 := by rw [ht12, tI_uI, if_neg (by decide)]
  have fr12 := fr8.uI ht12 (by simp)
  have e9 := ht12
  have e69 : ∀ i, tA t12 69 i = tA t 69 i := fun i => by rw [ht12, tA_uI]; exact f69 i
  refine w_iload rfl ?_
  refine w_ine (by omega) (fun _ => ?_) (fun h => absurd (by omega) h)
  refine w_step rfl ?_
  refine w_aload rfl ?_
  refine w_getR (g_68_0 _) ?_
  refine w_push kc_4 ?_
  refine w_iald (i := 4) (ai_69 _) (by omega) (by omega) (ax_69 nr_4) ok12 (fun z13 hz13 hl13 hh13 => ?_)
  refine w_push kc_14 ?_
  refine w_cne (by omega) (fun h14 => ?_) (fun h14 => ?_)
  · skip
    refine w_step rfl ?_
    have w0 : wfC (tA t12 78) (tI t12 68 19).toNat := by rw [e9, tA_uI, tI_uI, if_neg (by decide)]; exact eW (by omega)
    have rc := ok12.f fe_68_15
    have rd := ok12.f fe_68_19
    refine w_aload rfl ?_
    refine w_getR (g_68_0 _) ?_
    refine w_push kc_4 ?_
    refine w_iald (i := 4) (ai_69 _) (by omega) (by omega) (ax_69 nr_4) ok12 (fun z15 hz15 hl15 hh15 => ?_)
    have eT : z15 = tA t 69 4 := by rw [hz15, e69]
    refine w_istore (lv' := [some (.ref 68), some (.int (jI 1)), some (.int (jI z15)), none]) rfl ?_
    refine w_aload rfl ?_
    refine w_getR (g_68_0 _) ?_
    refine w_push kc_89 ?_
    refine w_push kc_2 ?_
    refine w_iload rfl ?_
    refine w_mul ?_
    refine w_add ?_
    refine w_push kc_1000 ?_
    refine w_aload rfl ?_
    refine w_getI (g_68_15 _) fe_68_15 ok12 (fun z16 hz16 hl16 hh16 => ?_)
    refine w_mul ?_
    refine w_aload rfl ?_
    refine w_getI (g_68_19 _) fe_68_19 ok12 (fun z17 hz17 hl17 hh17 => ?_)
    refine w_add ?_
    refine w_iast (i := ((89 + (2 * z15))).toNat) (ai_69 _) rfl (by omega) (by omega) (ax_69 (nr_T0 (s := z15.toNat) (by omega))) ok12 (by omega) (fun t18 ht18 ok18 => ?_)
    have kf18_68_9 : tI t18 68 9 = tI t12 68 9 := by rw [ht18]; rfl
    have kf18_68_10 : tI t18 68 10 = tI t12 68 10 := by rw [ht18]; rfl
    have kf18_68_11 : tI t18 68 11 = tI t12 68 11 := by rw [ht18]; rfl
    have kf18_68_12 : tI t18 68 12 = tI t12 68 12 := by rw [ht18]; rfl
    have kf18_68_13 : tI t18 68 13 = tI t12 68 13 := by rw [ht18]; rfl
    have kf18_68_14 : tI t18 68 14 = tI t12 68 14 := by rw [ht18]; rfl
    have kf18_68_19 : tI t18 68 19 = tI t12 68 19 := by rw [ht18]; rfl
    have kf18_68_20 : tI t18 68 20 = tI t12 68 20 := by rw [ht18]; rfl
    have kf18_68_22 : tI t18 68 22 = tI t12 68 22 := by rw [ht18]; rfl
    have kf18_68_15 : tI t18 68 15 = tI t12 68 15 := by rw [ht18]; rfl
    have fr18 := fr12.uA ht18 (by simp)
    have p1 := ht18
    refine w_aload rfl ?_
    refine w_getR (g_68_0 _) ?_
    refine w_push kc_89 ?_
    refine w_push kc_2 ?_
    refine w_iload rfl ?_
    refine w_mul ?_
    refine w_add ?_
    refine w_push kc_1 ?_
    refine w_add ?_
    refine w_aload rfl ?_
    refine w_getI (g_68_20 _) fe_68_20 ok18 (fun z19 hz19 hl19 hh19 => ?_)
    refine w_iast (i := (((89 + (2 * z15)) + 1)).toNat) (ai_69 _) rfl (by omega) (by omega) (ax_69 (nr_T1 (s := z15.toNat) (by omega))) ok18 (by omega) (fun t20 ht20 ok20 => ?_)
    have kf20_68_9 : tI t20 68 9 = tI t18 68 9 := by rw [ht20]; rfl
    have kf20_68_10 : tI t20 68 10 = tI t18 68 10 := by rw [ht20]; rfl
    have kf20_68_11 : tI t20 68 11 = tI t18 68 11 := by rw [ht20]; rfl
    have kf20_68_12 : tI t20 68 12 = tI t18 68 12 := by rw [ht20]; rfl
    have kf20_68_13 : tI t20 68 13 = tI t18 68 13 := by rw [ht20]; rfl
    have kf20_68_14 : tI t20 68 14 = tI t18 68 14 := by rw [ht20]; rfl
    have kf20_68_19 : tI t20 68 19 = tI t18 68 19 := by rw [ht20]; rfl
    have kf20_68_20 : tI t20 68 20 = tI t18 68 20 := by rw [ht20]; rfl
    have kf20_68_22 : tI t20 68 22 = tI t18 68 22 := by rw [ht20]; rfl
    have kf20_68_15 : tI t20 68 15 = tI t18 68 15 := by rw [ht20]; rfl
    have fr20 := fr18.uA ht20 (by simp)
    have p2 := ht20
    refine w_push kc_0 ?_
    refine w_istore (lv' := [some (.ref 68), some (.int (jI 1)), some (.int (jI z15)), some (.int (jI 0))]) rfl ?_
    refine w_goto ?_
    have key5 : ∀ (n5 M5 : Nat) (k : Int) (t21 : TS), OK t21 → Fr [(68, 10), (68, 11), (68, 12), (68, 13), (68, 14), (68, 9), (68, 15), (68, 19), (68, 20), (68, 22), (69, 100), (78, 100), (79, 100), (80, 100)] t t21 → (0 ≤ k) → (k ≤ tI t21 68 19) → (tI t21 68 19 = tI t20 68 19) → (tI t21 68 9 = tI t20 68 9) → (∀ j, tA t21 78 j = tA t20 78 j) → (∀ j : Nat, (j : Int) < k → tA t21 69 (117 + 96 * z15.toNat + j) = tA t20 78 j) → (∀ i, (i < 117 + 96 * z15.toNat ∨ 213 + 96 * z15.toNat ≤ i) → tA t21 69 i = tA t20 69 i) → 96 - k < (n5 : Int) → 60 * n5 + (1000) ≤ M5 → Rn (bX9_text (EX FU (d + 4))) M5 5 [some (.ref 68), some (.int (jI 1)), some (.int (jI z15)), some (.int (jI k))] [] (mk t21) (PI (fun z t' => OK t' ∧ Fr [(68, 10), (68, 11), (68, 12), (68, 13), (68, 14), (68, 9), (68, 15), (68, 19), (68, 20), (68, 22), (69, 100), (78, 100), (79, 100), (80, 100)] t t' ∧ (-2147483648 ≤ z) ∧ (z ≤ 2147483647) ∧ (tI t' 68 9 = 0) ∧ (WF t' 69) ∧ (∀ i, ¬ i = 4 → i < 89 → tA t' 69 i = tA t 69 i))) := by
      intro n5
      induction n5 with
      | zero => intro M5 k t21 ok21 fr21 i5_0 i5_1 i5_2 i5_3 i5_4 i5_5 i5_6 v5 f5; exfalso; omega
      | succ n5 ih5 =>
        intro M5 k t21 ok21 fr21 i5_0 i5_1 i5_2 i5_3 i5_4 i5_5 i5_6 v5 f5
        obtain ⟨M5, rfl⟩ : ∃ m, M5 = m + 60 := ⟨M5 - 60, by omega⟩
        have rk := ok21.f fe_68_19
        refine w_step rfl ?_
        refine w_iload rfl ?_
        refine w_aload rfl ?_
        refine w_getI (g_68_19 _) fe_68_19 ok21 (fun z22 hz22 hl22 hh22 => ?_)
        refine w_cge (by omega) (fun h23 => ?_) (fun h23 => ?_)
        · skip
          refine w_step rfl ?_
          refine w_aload rfl ?_
          refine w_getR (g_68_0 _) ?_
          refine w_push kc_4 ?_
          refine w_dup2 ?_
          refine w_iald (i := 4) (ai_69 _) (by omega) (by omega) (ax_69 nr_4) ok21 (fun z24 hz24 hl24 hh24 => ?_)
          have e4 : z24 = tA t 69 4 := by rw [hz24, i5_6 4 (by omega), p2, tA_uA, if_neg (by omega), p1, tA_uA, if_neg (by omega)]; exact e69 4
          refine w_push kc_1 ?_
          refine w_add ?_
          refine w_iast (i := 4) (ai_69 _) rfl (by omega) (by omega) (ax_69 nr_4) ok21 (by omega) (fun t25 ht25 ok25 => ?_)
          have kf25_68_9 : tI t25 68 9 = tI t21 68 9 := by rw [ht25]; rfl
          have kf25_68_10 : tI t25 68 10 = tI t21 68 10 := by rw [ht25]; rfl
          have kf25_68_11 : tI t25 68 11 = tI t21 68 11 := by rw [ht25]; rfl
          have kf25_68_12 : tI t25 68 12 = tI t21 68 12 := by rw [ht25]; rfl
          have kf25_68_13 : tI t25 68 13 = tI t21 68 13 := by rw [ht25]; rfl
          have kf25_68_14 : tI t25 68 14 = tI t21 68 14 := by rw [ht25]; rfl
          have kf25_68_19 : tI t25 68 19 = tI t21 68 19 := by rw [ht25]; rfl
          have kf25_68_20 : tI t25 68 20 = tI t21 68 20 := by rw [ht25]; rfl
          have kf25_68_22 : tI t25 68 22 = tI t21 68 22 := by rw [ht25]; rfl
          have kf25_68_15 : tI t25 68 15 = tI t21 68 15 := by rw [ht25]; rfl
          have fr25 := fr21.uA ht25 (by simp)
          have p4 := ht25
          obtain ⟨cN, hcN⟩ : ∃ n : Nat, n = (tI t20 68 19).toNat := ⟨_, rfl⟩
          have eF : WF t25 69 := by
            refine WF_add (T := z15.toNat) (c := cN) (f := tA t20 78) q0 (by omega) ?_ ?_ (by omega) ?_ ?_ (by omega) ?_
            · rw [p4, tA_uA, if_pos ⟨rfl, rfl⟩]; omega
            · rw [p4, tA_uA, if_neg (by omega), i5_6 _ (by omega), p2, tA_uA, if_neg (by omega), p1, tA_uA, if_pos (by omega)]; omega
            · have h78 : ∀ j, tA t20 78 j = tA t12 78 j := fun j => by rw [p2, tA_uA, if_neg (by omega), p1, tA_uA, if_neg (by omega)]
              have h19 : cN = (tI t12 68 19).toNat := by omega
              rw [h19]; exact wfC_congr (fun j _ => (h78 j).symm) w0
            · intro j hj; rw [p4, tA_uA, if_neg (by omega)]; exact i5_5 j (by omega)
            · intro i hi; rw [p4, tA_uA, if_neg (by omega), i5_6 i (by omega), p2, tA_uA, if_neg (by omega), p1, tA_uA, if_neg (by omega)]; exact e69 i
          have eG : ∀ i, ¬ i = 4 → i < 89 → tA t25 69 i = tA t 69 i := fun i h1 h2 => by rw [p4, tA_uA, if_neg (by omega), i5_6 i (by omega), p2, tA_uA, if_neg (by omega), p1, tA_uA, if_neg (by omega)]; exact e69 i
          refine w_iload rfl ?_
          refine w_retI rfl ?_
          exact ⟨ok25, fr25, (by omega), (by omega), (by omega), (by first | exact (q0.same (fun i _ => e69 i)) | exact eF), (by first | exact (fun i _ _ => e69 i) | exact eG)⟩
        refine w_aload rfl ?_
        refine w_getR (g_68_0 _) ?_
        refine w_push kc_117 ?_
        refine w_push kc_96 ?_
        refine w_iload rfl ?_
        refine w_mul ?_
        refine w_add ?_
        refine w_iload rfl ?_
        refine w_add ?_
        refine w_aload rfl ?_
        refine w_getR (g_68_18 _) ?_
        refine w_iload rfl ?_
        refine w_iald (i := (k).toNat) (ai_78 _) (by omega) (by omega) (ae_78 _) ok21 (fun z26 hz26 hl26 hh26 => ?_)
        have ev := hz26
        refine w_iast (i := (((117 + (96 * z15)) + k)).toNat) (ai_69 _) rfl (by omega) (by omega) (ax_69 (nr_C (by omega))) ok21 (by omega) (fun t27 ht27 ok27 => ?_)
        have kf27_68_9 : tI t27 68 9 = tI t21 68 9 := by rw [ht27]; rfl
        have kf27_68_10 : tI t27 68 10 = tI t21 68 10 := by rw [ht27]; rfl
        have kf27_68_11 : tI t27 68 11 = tI t21 68 11 := by rw [ht27]; rfl
        have kf27_68_12 : tI t27 68 12 = tI t21 68 12 := by rw [ht27]; rfl
        have kf27_68_13 : tI t27 68 13 = tI t21 68 13 := by rw [ht27]; rfl
        have kf27_68_14 : tI t27 68 14 = tI t21 68 14 := by rw [ht27]; rfl
        have kf27_68_19 : tI t27 68 19 = tI t21 68 19 := by rw [ht27]; rfl
        have kf27_68_20 : tI t27 68 20 = tI t21 68 20 := by rw [ht27]; rfl
        have kf27_68_22 : tI t27 68 22 = tI t21 68 22 := by rw [ht27]; rfl
        have kf27_68_15 : tI t27 68 15 = tI t21 68 15 := by rw [ht27]; rfl
        have fr27 := fr21.uA ht27 (by simp)
        have p3 := ht27
        refine w_iinc (lv' := [some (.ref 68), some (.int (jI 1)), some (.int (jI z15)), some (.int (jI (k + 1)))]) kc_1 rfl rfl ?_
        refine w_goto ?_
        have eJ : ∀ j : Nat, (j : Int) < k + 1 → tA t27 69 (117 + 96 * z15.toNat + j) = tA t20 78 j := by
          intro j hj
          rw [p3, tA_uA]
          by_cases h9 : j = k.toNat
          · rw [if_pos (by omega), ev, h9]; exact i5_4 _
          · rw [if_neg (by omega)]; exact i5_5 j (by omega)
        exact ih5 _ (k + 1) t27 ok27 fr27 (by omega) (by omega) (by omega) (by omega) (by intro j; rw [p3, tA_uA, if_neg (by omega)]; exact i5_4 j) eJ (by intro i hi; rw [p3, tA_uA, if_neg (by omega)]; exact i5_6 i hi) (by omega) (by omega)
    exact key5 97 _ 0 t20 ok20 fr20 (by omega) (by omega) (by omega) (by omega) (fun _ => rfl) (by intro j hj; omega) (fun _ _ => rfl) (by omega) (by omega)
  refine w_push kc_m1000000003 ?_
  refine w_retI rfl ?_
  exact ⟨ok12, fr12, (by omega), (by omega), (by omega), (by first | exact (q0.same (fun i _ => e69 i)) | exact eF), (by first | exact (fun i _ _ => e69 i) | exact eG)⟩
