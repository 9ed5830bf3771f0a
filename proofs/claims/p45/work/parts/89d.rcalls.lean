section
set_option maxRecDepth 100000 in
set_option maxHeartbeats 4000000 in
theorem e_X9_fee {d : Nat} {t : TS}  (ok : OK t) (q0 : WF t 69) (q1 : NZ t 69) (q2 : tI t 68 4 = -1) : CI (EX FU (d + 6)) 185 [.ref 68] (mk t) (fun z t' => OK t' ∧ Fr [(81, 100), (82, 100)] t t' ∧ (∃ f2, z = exR t 69 1 (pcA t 69 0) (pcA t 69 0) (mtA t 69 0) f2)) := by
  refine CI_ent (d := d + 5) (Bk := bX9_fee) (nL := 3) rfl rfl rfl (Nat.le_of_ble_eq_true rfl) ?_
  show Rn _ 1000000 0 [some (.ref 68), none, none] [] _ _
  have fr : Fr [(81, 100), (82, 100)] t t := Fr.rf _ _
  have hn0 := (ok.a (ax_69 nr_1)).1
  have hn1 := (ok.a (ax_69 nr_1)).2
  refine w_step rfl ?_
  refine w_aload rfl ?_
  refine w_push kc_1 ?_
  refine w_callV1I (oj_68 _).choose_spec rfl (e_X9_counts ok (by omega) (by omega)) ?_
  rintro z1 t1 ⟨rfl, hp1_0, hp1_1, hp1_2, hp1_3⟩
  have hcu := hp1_3
  refine w_istore (lv' := [some (.ref 68), some (.int (jI z1)), none]) rfl ?_
  refine w_aload rfl ?_
  refine w_callV0I (oj_68 _).choose_spec rfl (e_X9_picture ok q0 (by intro k hk; have e := fr.2.1 69 (by simp); rw [e] at hk ⊢; exact q1 k hk) (AW_no q2)) ?_
  rintro z2 t2 ⟨ok2, fq2, hp2_0, hp2_1, hp2_2⟩
  have fr2 := fr.then fq2 (by simp)
  have wf2 := q0.fr fq2 (by simp)
  have epc : z2 = pcA t 69 0 := by rw [hp2_2]; exact pc_e q2
  refine w_istore (lv' := [some (.ref 68), some (.int (jI z1)), some (.int (jI z2))]) rfl ?_
  refine w_aload rfl ?_
  refine w_getR (g_68_25 _) ?_
  refine w_push kc_0 ?_
  refine w_iload rfl ?_
  refine w_iast (i := 0) (ai_82 _) rfl (by omega) (by omega) (ae_82 _) ok2 (by omega) (fun t3 ht3 ok3 => ?_)
  have fr3 := fr2.uA ht3 (by simp)
  have wf3 := wf2.uAo ht3 (by decide)
  have frb := fr3
  refine w_aload rfl ?_
  refine w_getR (g_68_25 _) ?_
  refine w_push kc_1 ?_
  refine w_aload rfl ?_
  refine w_callV0I (oj_68 _).choose_spec rfl (e_X9_matches ok3 (AW_no ((frb.1 68 4 (by simp)).trans q2))) ?_
  rintro z4 t4 ⟨rfl, hp4_0, hp4_1, hp4_2⟩
  have emt : z4 = mtA t 69 0 := by rw [hp4_2]; exact gx_mt (gx_0 q2 (frb.2.1 69 (by simp)) (frb.1 68 4 (by simp)))
  refine w_iast (i := 1) (ai_82 _) rfl (by omega) (by omega) (ae_82 _) ok3 (by omega) (fun t5 ht5 ok5 => ?_)
  have fr5 := fr3.uA ht5 (by simp)
  have wf5 := wf3.uAo ht5 (by decide)
  have frc := fr5
  refine w_iload rfl ?_
  refine w_ige (by omega) (fun h6 => ?_) (fun h6 => ?_)
  · skip
    refine w_step rfl ?_
    refine w_aload rfl ?_
    refine w_iload rfl ?_
    refine w_callV1I (oj_68 _).choose_spec rfl (e_X9_worksOut ok5 wf5 (by intro k hk; have e := fr5.2.1 69 (by simp); rw [e] at hk ⊢; exact q1 k hk) (by omega) (by have h4 := fr5.2.1 69 (by simp) 4; omega)) ?_
    rintro z7 t7 ⟨ok7, fq7, hp7_0, hp7_1, hp7_2⟩
    have fr7 := fr5.then fq7 (by simp)
    have wf7 := wf5.fr fq7 (by simp)
    have hwo := ev_x (t := t) (u := t5) (q := 1) (d := pcA t 69 0) (f0 := pcA t 69 0) (f1 := mtA t 69 0) (f2 := tA t5 82 2) (fun i => frc.2.1 69 (by simp) i) (by rw [ht5, tA_uA, if_neg (by decide), ht3, tA_uA, if_pos ⟨rfl, rfl⟩]; exact epc) (by rw [ht5, tA_uA, if_pos ⟨rfl, rfl⟩]; exact emt) rfl hcu (by omega) hp7_2
    refine w_goto ?_
    refine w_step rfl ?_
    refine w_retI rfl ?_
    exact ⟨ok7, fr7, (by first | exact ⟨_, hwo⟩ | exact ⟨0, by rw [ex_0 (by rw [← hcu]; omega)]; exact epc⟩)⟩
  refine w_iload rfl ?_
  refine w_goto ?_
  refine w_step rfl ?_
  refine w_retI rfl ?_
  exact ⟨ok5, fr5, (by first | exact ⟨_, hwo⟩ | exact ⟨0, by rw [ex_0 (by rw [← hcu]; omega)]; exact epc⟩)⟩
set_option maxRecDepth 100000 in
set_option maxHeartbeats 4000000 in
theorem e_X9_fine {d : Nat} {t : TS} {s : Int}  (ok : OK t) (q0 : WF t 69) (q1 : NZ t 69) (q2 : -2147483648 ≤ s) (q3 : s ≤ 2147483647) : CI (EX FU (d + 3)) 186 [.ref 68, .int (jI s)] (mk t) (fun z t' => OK t' ∧ Fr [(81, 100), (82, 100)] t t' ∧ (((¬ (0 ≤ s ∧ s ≤ tA t 69 1 - 1)) ∧ z = (-1000000001)) ∨ ((0 ≤ s ∧ s ≤ tA t 69 1 - 1) ∧ z = exR t 69 2 (tA t 69 (30 + 5 * s.toNat)) (tA t 69 (30 + 5 * s.toNat)) (tA t 69 (31 + 5 * s.toNat)) (tA t 69 (33 + 5 * s.toNat))))) := by
  refine CI_ent (d := d + 2) (Bk := bX9_fine) (nL := 3) rfl rfl rfl (Nat.le_of_ble_eq_true rfl) ?_
  show Rn _ 1000000 0 [some (.ref 68), some (.int (jI s)), none] [] _ _
  have fr : Fr [(81, 100), (82, 100)] t t := Fr.rf _ _
  have hn0 := (ok.a (ax_69 nr_1)).1
  have hn1 := (ok.a (ax_69 nr_1)).2
  refine w_step rfl ?_
  refine w_aload rfl ?_
  refine w_iload rfl ?_
  refine w_callV1I (oj_68 _).choose_spec rfl (c_X9_isStone ok (by omega) (by omega)) ?_
  rintro z1 t1 ⟨rfl, hp1_0⟩
  rcases hp1_0 with ⟨rfl, hp1_0⟩ | ⟨rfl, hp1_0⟩
  · skip
    refine w_ine (by omega) (fun h => absurd h (by omega)) (fun _ => ?_)
    refine w_push kc_m1000000001 ?_
    refine w_retI rfl ?_
    exact ⟨ok, fr, (by first | (exact Or.inl ⟨by omega, by first | omega | (subst_vars; rfl)⟩) | (exact Or.inr (⟨by omega, by first | exact hwo | (rw [ex_0 (by rw [← hcu]; omega)]; exact v3)⟩)))⟩
  refine w_ine (by omega) (fun _ => ?_) (fun h => absurd (by omega) h)
  refine w_step rfl ?_
  refine w_aload rfl ?_
  refine w_push kc_2 ?_
  refine w_callV1I (oj_68 _).choose_spec rfl (e_X9_counts ok (by omega) (by omega)) ?_
  rintro z2 t2 ⟨rfl, hp2_0, hp2_1, hp2_2, hp2_3⟩
  have hcu := hp2_3
  refine w_istore (lv' := [some (.ref 68), some (.int (jI s)), some (.int (jI z2))]) rfl ?_
  refine w_aload rfl ?_
  refine w_getR (g_68_25 _) ?_
  refine w_push kc_0 ?_
  refine w_aload rfl ?_
  refine w_iload rfl ?_
  refine w_push kc_1 ?_
  refine w_callV2I (oj_68 _).choose_spec rfl (c_X9_of ok (by omega) (by omega) (by omega) (by omega)) ?_
  rintro z3 t3 ⟨rfl, hp3_0, hp3_1, hp3_2⟩
  have hr3 := of_r1 (s := s) ok (by omega)
  have v0 : z3 = tA t 69 (30 + 5 * s.toNat) := by
    rw [hp3_0]
    congr 1
    omega
  refine w_iast (i := 0) (ai_82 _) rfl (by omega) (by omega) (ae_82 _) ok (by omega) (fun t4 ht4 ok4 => ?_)
  have fr4 := fr.uA ht4 (by simp)
  have wf4 := q0.uAo ht4 (by decide)
  have fra := fr4
  refine w_aload rfl ?_
  refine w_getR (g_68_25 _) ?_
  refine w_push kc_1 ?_
  refine w_aload rfl ?_
  refine w_iload rfl ?_
  refine w_push kc_2 ?_
  refine w_callV2I (oj_68 _).choose_spec rfl (c_X9_of ok4 (by omega) (by omega) (by omega) (by omega)) ?_
  rintro z5 t5 ⟨rfl, hp5_0, hp5_1, hp5_2⟩
  have hr5 := of_r2 (s := s) ok4 (by omega)
  have v1 : z5 = tA t 69 (31 + 5 * s.toNat) := by
    rw [hp5_0, fra.2.1 69 (by simp)]
    congr 1
    omega
  refine w_iast (i := 1) (ai_82 _) rfl (by omega) (by omega) (ae_82 _) ok4 (by omega) (fun t6 ht6 ok6 => ?_)
  have fr6 := fr4.uA ht6 (by simp)
  have wf6 := wf4.uAo ht6 (by decide)
  have frb := fr6
  refine w_aload rfl ?_
  refine w_getR (g_68_25 _) ?_
  refine w_push kc_2 ?_
  refine w_aload rfl ?_
  refine w_iload rfl ?_
  refine w_push kc_4 ?_
  refine w_callV2I (oj_68 _).choose_spec rfl (c_X9_of ok6 (by omega) (by omega) (by omega) (by omega)) ?_
  rintro z7 t7 ⟨rfl, hp7_0, hp7_1, hp7_2⟩
  have hr7 := of_r4 (s := s) ok6 (by omega)
  have v2 : z7 = tA t 69 (33 + 5 * s.toNat) := by
    rw [hp7_0, frb.2.1 69 (by simp)]
    congr 1
    omega
  refine w_iast (i := 2) (ai_82 _) rfl (by omega) (by omega) (ae_82 _) ok6 (by omega) (fun t8 ht8 ok8 => ?_)
  have fr8 := fr6.uA ht8 (by simp)
  have wf8 := wf6.uAo ht8 (by decide)
  have frc := fr8
  refine w_iload rfl ?_
  refine w_ige (by omega) (fun h9 => ?_) (fun h9 => ?_)
  · skip
    refine w_step rfl ?_
    refine w_aload rfl ?_
    refine w_iload rfl ?_
    refine w_callV1I (oj_68 _).choose_spec rfl (e_X9_worksOut ok8 wf8 (by intro k hk; have e := fr8.2.1 69 (by simp); rw [e] at hk ⊢; exact q1 k hk) (by omega) (by have h4 := fr8.2.1 69 (by simp) 4; omega)) ?_
    rintro z10 t10 ⟨ok10, fq10, hp10_0, hp10_1, hp10_2⟩
    have fr10 := fr8.then fq10 (by simp)
    have wf10 := wf8.fr fq10 (by simp)
    have hwo := ev_x (t := t) (u := t8) (q := 2) (d := tA t 69 (30 + 5 * s.toNat)) (f0 := tA t 69 (30 + 5 * s.toNat)) (f1 := tA t 69 (31 + 5 * s.toNat)) (f2 := tA t 69 (33 + 5 * s.toNat)) (fun i => frc.2.1 69 (by simp) i) (by rw [ht8, tA_uA, if_neg (by decide), ht6, tA_uA, if_neg (by decide), ht4, tA_uA, if_pos ⟨rfl, rfl⟩]; exact v0) (by rw [ht8, tA_uA, if_neg (by decide), ht6, tA_uA, if_pos ⟨rfl, rfl⟩]; exact v1) (by rw [ht8, tA_uA, if_pos ⟨rfl, rfl⟩]; exact v2) hcu (by omega) hp10_2
    refine w_goto ?_
    refine w_step rfl ?_
    refine w_retI rfl ?_
    exact ⟨ok10, fr10, (by first | (exact Or.inl ⟨by omega, by first | omega | (subst_vars; rfl)⟩) | (exact Or.inr (⟨by omega, by first | exact hwo | (rw [ex_0 (by rw [← hcu]; omega)]; exact v3)⟩)))⟩
  refine w_aload rfl ?_
  refine w_iload rfl ?_
  refine w_push kc_1 ?_
  refine w_callV2I (oj_68 _).choose_spec rfl (c_X9_of ok8 (by omega) (by omega) (by omega) (by omega)) ?_
  rintro z11 t11 ⟨rfl, hp11_0, hp11_1, hp11_2⟩
  have hr11 := of_r1 (s := s) ok8 (by omega)
  have v3 : z11 = tA t 69 (30 + 5 * s.toNat) := by
    rw [hp11_0, frc.2.1 69 (by simp)]
    congr 1
    omega
  refine w_goto ?_
  refine w_step rfl ?_
  refine w_retI rfl ?_
  exact ⟨ok8, fr8, (by first | (exact Or.inl ⟨by omega, by first | omega | (subst_vars; rfl)⟩) | (exact Or.inr (⟨by omega, by first | exact hwo | (rw [ex_0 (by rw [← hcu]; omega)]; exact v3)⟩)))⟩
set_option maxRecDepth 100000 in
set_option maxHeartbeats 4000000 in
theorem e_X9_why {d : Nat} {t : TS} {k : Int}  (ok : OK t) (q0 : -2147483648 ≤ k) (q1 : k ≤ 2147483647) : CI (EX FU (d + 2)) 203 [.ref 68, .int (jI k)] (mk t) (fun z t' => t = t' ∧ (((¬ (0 ≤ k ∧ k ≤ 2)) ∧ z = (-1000000001)) ∨ ((0 ≤ k ∧ k ≤ 2) ∧ (cuA t 69 k = -1) ∧ z = (-1000000005)) ∨ ((0 ≤ k ∧ k ≤ 2) ∧ (¬ cuA t 69 k = -1) ∧ z = cuA t 69 k))) := by
  refine CI_ent (d := d + 1) (Bk := bX9_why) (nL := 3) rfl rfl rfl (Nat.le_of_ble_eq_true rfl) ?_
  show Rn _ 1000000 0 [some (.ref 68), some (.int (jI k)), none] [] _ _
  have hn0 := (ok.a (ax_69 nr_1)).1
  have hn1 := (ok.a (ax_69 nr_1)).2
  refine w_step rfl ?_
  refine w_iload rfl ?_
  refine w_push kc_0 ?_
  refine w_push kc_2 ?_
  refine w_callS3I rfl (c_X9_in ok (by omega) (by omega) (by omega) (by omega) (by omega) (by omega)) ?_
  rintro z1 t1 ⟨rfl, hp1_0⟩
  rcases hp1_0 with ⟨rfl, hp1_0⟩ | ⟨rfl, hp1_0⟩
  · skip
    refine w_ine (by omega) (fun h => absurd h (by omega)) (fun _ => ?_)
    refine w_push kc_m1000000001 ?_
    refine w_retI rfl ?_
    exact ⟨rfl, (by first | (exact Or.inl ⟨by omega, by first | omega | (subst_vars; rfl)⟩) | (exact Or.inr (Or.inl ⟨by omega, by omega, by first | omega | (subst_vars; rfl)⟩)) | (exact Or.inr (Or.inr (⟨by omega, by omega, by omega⟩))))⟩
  refine w_ine (by omega) (fun _ => ?_) (fun h => absurd (by omega) h)
  refine w_step rfl ?_
  refine w_aload rfl ?_
  refine w_iload rfl ?_
  refine w_callV1I (oj_68 _).choose_spec rfl (e_X9_counts ok (by omega) (by omega)) ?_
  rintro z2 t2 ⟨rfl, hp2_0, hp2_1, hp2_2, hp2_3⟩
  have hcu := hp2_3
  refine w_istore (lv' := [some (.ref 68), some (.int (jI k)), some (.int (jI z2))]) rfl ?_
  refine w_iload rfl ?_
  refine w_ige (by omega) (fun h3 => ?_) (fun h3 => ?_)
  · skip
    refine w_step rfl ?_
    refine w_iload rfl ?_
    refine w_goto ?_
    refine w_step rfl ?_
    refine w_retI rfl ?_
    exact ⟨rfl, (by first | (exact Or.inl ⟨by omega, by first | omega | (subst_vars; rfl)⟩) | (exact Or.inr (Or.inl ⟨by omega, by omega, by first | omega | (subst_vars; rfl)⟩)) | (exact Or.inr (Or.inr (⟨by omega, by omega, by omega⟩))))⟩
  refine w_push kc_m1000000005 ?_
  refine w_goto ?_
  refine w_step rfl ?_
  refine w_retI rfl ?_
  exact ⟨rfl, (by first | (exact Or.inl ⟨by omega, by first | omega | (subst_vars; rfl)⟩) | (exact Or.inr (Or.inl ⟨by omega, by omega, by first | omega | (subst_vars; rfl)⟩)) | (exact Or.inr (Or.inr (⟨by omega, by omega, by omega⟩))))⟩
set_option maxRecDepth 100000 in
set_option maxHeartbeats 4000000 in
theorem e_X9_textTold {d : Nat} {t : TS} {x w : Int}  (ok : OK t) (q0 : -2147483648 ≤ x) (q1 : x ≤ 2147483647) (q2 : -2147483648 ≤ w) (q3 : w ≤ 2147483647) : CI (EX FU (d + 2)) 201 [.ref 68, .int (jI x), .int (jI w)] (mk t) (fun z t' => t = t' ∧ (((¬ (0 ≤ x ∧ x ≤ tA t 69 4 - 1 ∧ 0 ≤ w ∧ w ≤ 1)) ∧ z = (-1000000001)) ∨ ((0 ≤ x ∧ x ≤ tA t 69 4 - 1 ∧ 0 ≤ w ∧ w ≤ 1) ∧ (w = 0) ∧ z = tA t 69 (89 + 2 * x.toNat) / 1000) ∨ ((0 ≤ x ∧ x ≤ tA t 69 4 - 1 ∧ 0 ≤ w ∧ w ≤ 1) ∧ (w = 1) ∧ z = tA t 69 (90 + 2 * x.toNat)))) := by
  refine CI_ent (d := d + 1) (Bk := bX9_textTold) (nL := 3) rfl rfl rfl (Nat.le_of_ble_eq_true rfl) ?_
  show Rn _ 1000000 0 [some (.ref 68), some (.int (jI x)), some (.int (jI w))] [] _ _
  have hn0 := (ok.a (ax_69 nr_1)).1
  have hn1 := (ok.a (ax_69 nr_1)).2
  have hx9 := (ok.a (ax_69 nr_4)).2
  refine w_step rfl ?_
  refine w_iload rfl ?_
  refine w_push kc_0 ?_
  refine w_aload rfl ?_
  refine w_getR (g_68_0 _) ?_
  refine w_push kc_4 ?_
  refine w_iald (i := 4) (ai_69 _) (by omega) (by omega) (ax_69 nr_4) ok (fun z1 hz1 hl1 hh1 => ?_)
  refine w_push kc_1 ?_
  refine w_sub ?_
  refine w_callS3I rfl (c_X9_in ok (by omega) (by omega) (by omega) (by omega) (by omega) (by omega)) ?_
  rintro z2 t2 ⟨rfl, hp2_0⟩
  rcases hp2_0 with ⟨rfl, hp2_0⟩ | ⟨rfl, hp2_0⟩
  · skip
    refine w_ieq (by omega) (fun _ => ?_) (fun h => absurd (by omega) h)
    refine w_step rfl ?_
    refine w_push kc_m1000000001 ?_
    refine w_retI rfl ?_
    exact ⟨rfl, (by first | (exact Or.inl ⟨by omega, by first | omega | (subst_vars; rfl)⟩) | (exact Or.inr (Or.inl ⟨by omega, by omega, by omega⟩)) | (exact Or.inr (Or.inr (⟨by omega, by omega, by omega⟩))))⟩
  refine w_ieq (by omega) (fun h => absurd h (by omega)) (fun _ => ?_)
  refine w_iload rfl ?_
  refine w_push kc_0 ?_
  refine w_push kc_1 ?_
  refine w_callS3I rfl (c_X9_in ok (by omega) (by omega) (by omega) (by omega) (by omega) (by omega)) ?_
  rintro z3 t3 ⟨rfl, hp3_0⟩
  rcases hp3_0 with ⟨rfl, hp3_0⟩ | ⟨rfl, hp3_0⟩
  · skip
    refine w_ine (by omega) (fun h => absurd h (by omega)) (fun _ => ?_)
    refine w_goto ?_
    refine w_step rfl ?_
    refine w_push kc_m1000000001 ?_
    refine w_retI rfl ?_
    exact ⟨rfl, (by first | (exact Or.inl ⟨by omega, by first | omega | (subst_vars; rfl)⟩) | (exact Or.inr (Or.inl ⟨by omega, by omega, by omega⟩)) | (exact Or.inr (Or.inr (⟨by omega, by omega, by omega⟩))))⟩
  refine w_ine (by omega) (fun _ => ?_) (fun h => absurd (by omega) h)
  refine w_step rfl ?_
  refine w_iload rfl ?_
  refine w_ine (by omega) (fun h4 => ?_) (fun h4 => ?_)
  · skip
    refine w_step rfl ?_
    refine w_aload rfl ?_
    refine w_getR (g_68_0 _) ?_
    refine w_push kc_89 ?_
    refine w_push kc_2 ?_
    refine w_iload rfl ?_
    refine w_mul ?_
    refine w_add ?_
    refine w_push kc_1 ?_
    refine w_add ?_
    refine w_iald (i := (((89 + (2 * x)) + 1)).toNat) (ai_69 _) (by omega) (by omega) (ax_69 (nr_T1 (s := x.toNat) (by omega))) ok (fun z5 hz5 hl5 hh5 => ?_)
    have e2 : z5 = tA t 69 (90 + 2 * x.toNat) := by rw [hz5]; congr 1; omega
    refine w_goto ?_
    refine w_step rfl ?_
    refine w_retI rfl ?_
    exact ⟨rfl, (by first | (exact Or.inl ⟨by omega, by first | omega | (subst_vars; rfl)⟩) | (exact Or.inr (Or.inl ⟨by omega, by omega, by omega⟩)) | (exact Or.inr (Or.inr (⟨by omega, by omega, by omega⟩))))⟩
  refine w_aload rfl ?_
  refine w_getR (g_68_0 _) ?_
  refine w_push kc_89 ?_
  refine w_push kc_2 ?_
  refine w_iload rfl ?_
  refine w_mul ?_
  refine w_add ?_
  refine w_iald (i := ((89 + (2 * x))).toNat) (ai_69 _) (by omega) (by omega) (ax_69 (nr_T0 (s := x.toNat) (by omega))) ok (fun z6 hz6 hl6 hh6 => ?_)
  have e1 : z6 = tA t 69 (89 + 2 * x.toNat) := by rw [hz6]; congr 1; omega
  refine w_push kc_1000 ?_
  refine w_div (by omega) ?_
  refine w_goto ?_
  refine w_step rfl ?_
  refine w_retI rfl ?_
  exact ⟨rfl, (by first | (exact Or.inl ⟨by omega, by first | omega | (subst_vars; rfl)⟩) | (exact Or.inr (Or.inl ⟨by omega, by omega, by omega⟩)) | (exact Or.inr (Or.inr (⟨by omega, by omega, by omega⟩))))⟩
set_option maxRecDepth 100000 in
set_option maxHeartbeats 4000000 in
theorem e_X9_reads {d : Nat} {t : TS} {k : Int}  (ok : OK t) (q0 : -2147483648 ≤ k) (q1 : k ≤ 2147483647) : CI (EX FU (d + 3)) 211 [.ref 68, .int (jI k)] (mk t) (fun z t' => t = t' ∧ (((¬ (0 ≤ k ∧ k ≤ 3)) ∧ z = (-1000000001)) ∨ ((0 ≤ k ∧ k ≤ 3) ∧ (tA t 83 k.toNat = -1) ∧ z = (-1000000011)) ∨ ((0 ≤ k ∧ k ≤ 3) ∧ (¬ tA t 83 k.toNat = -1) ∧ (FsP (fun i => ¬ tA t 85 (24 * k.toNat + i) = -1000000005 ∧ (12 ≤ (i : Int) ∨ ¬ tA t 85 (24 * k.toNat + i) = atA t 69 0 (i : Int))) (tA t 84 k.toNat) z)))) := by
  refine CI_ent (d := d + 2) (Bk := bX9_reads) (nL := 4) rfl rfl rfl (Nat.le_of_ble_eq_true rfl) ?_
  show Rn _ 1000000 0 [some (.ref 68), some (.int (jI k)), none, none] [] _ _
  have hn0 := (ok.a (ax_69 nr_1)).1
  have hn1 := (ok.a (ax_69 nr_1)).2
  have r84 : 0 ≤ tA t 84 k.toNat ∧ tA t 84 k.toNat ≤ 24 := ok.a (ae_84 _)
  have r83 : -1 ≤ tA t 83 k.toNat ∧ tA t 83 k.toNat ≤ 1 := ok.a (ae_83 _)
  refine w_step rfl ?_
  refine w_iload rfl ?_
  refine w_callS1I rfl (c_X9_isSheet ok (by omega) (by omega)) ?_
  rintro z1 t1 ⟨rfl, hp1_0⟩
  rcases hp1_0 with ⟨rfl, hp1_0⟩ | ⟨rfl, hp1_0⟩
  · skip
    refine w_ine (by omega) (fun h => absurd h (by omega)) (fun _ => ?_)
    refine w_push kc_m1000000001 ?_
    refine w_retI rfl ?_
    exact ⟨rfl, (by first | (exact Or.inl ⟨by omega, by first | omega | (subst_vars; rfl)⟩) | (exact Or.inr (Or.inl ⟨by omega, by omega, by first | omega | (subst_vars; rfl)⟩)) | (exact Or.inr (Or.inr (⟨by omega, by omega, by first | exact Or.inl ⟨rfl, fun i h1 h2 => i3_3 i h1 (by omega)⟩ | exact Or.inr ⟨by omega, by omega, by show (_ ∧ _); omega, i3_3⟩⟩))))⟩
  refine w_ine (by omega) (fun _ => ?_) (fun h => absurd (by omega) h)
  refine w_step rfl ?_
  refine w_aload rfl ?_
  refine w_getR (g_68_26 _) ?_
  refine w_iload rfl ?_
  refine w_iald (i := (k).toNat) (ai_83 _) (by omega) (by omega) (ae_83 _) ok (fun z2 hz2 hl2 hh2 => ?_)
  have e83 : z2 = tA t 83 k.toNat := by rw [hz2]
  refine w_ige (by omega) (fun h3 => ?_) (fun h3 => ?_)
  · skip
    refine w_step rfl ?_
    refine w_push kc_0 ?_
    refine w_istore (lv' := [some (.ref 68), some (.int (jI k)), some (.int (jI 0)), none]) rfl ?_
    refine w_goto ?_
    have key3 : ∀ (n3 M3 : Nat) (p : Int) (o3 : Option Int), (0 ≤ p) → (p ≤ 24) → (p ≤ tA t 84 k.toNat) → (∀ i : Int, 0 ≤ i → i < p → ¬ (fun i => ¬ tA t 85 (24 * k.toNat + i) = -1000000005 ∧ (12 ≤ (i : Int) ∨ ¬ tA t 85 (24 * k.toNat + i) = atA t 69 0 (i : Int))) i.toNat) → 24 - p < (n3 : Int) → 60 * n3 + (1000) ≤ M3 → Rn (bX9_reads (EX FU (d + 2))) M3 3 [some (.ref 68), some (.int (jI k)), some (.int (jI p)), dv o3] [] (mk t) (PI (fun z t' => t = t' ∧ (((¬ (0 ≤ k ∧ k ≤ 3)) ∧ z = (-1000000001)) ∨ ((0 ≤ k ∧ k ≤ 3) ∧ (tA t 83 k.toNat = -1) ∧ z = (-1000000011)) ∨ ((0 ≤ k ∧ k ≤ 3) ∧ (¬ tA t 83 k.toNat = -1) ∧ (FsP (fun i => ¬ tA t 85 (24 * k.toNat + i) = -1000000005 ∧ (12 ≤ (i : Int) ∨ ¬ tA t 85 (24 * k.toNat + i) = atA t 69 0 (i : Int))) (tA t 84 k.toNat) z))))) := by
      intro n3
      induction n3 with
      | zero => intro M3 p o3 i3_0 i3_1 i3_2 i3_3 v3 f3; exfalso; omega
      | succ n3 ih3 =>
        intro M3 p o3 i3_0 i3_1 i3_2 i3_3 v3 f3
        obtain ⟨M3, rfl⟩ : ∃ m, M3 = m + 60 := ⟨M3 - 60, by omega⟩
        refine w_step rfl ?_
        refine w_iload rfl ?_
        refine w_aload rfl ?_
        refine w_getR (g_68_27 _) ?_
        refine w_iload rfl ?_
        refine w_iald (i := (k).toNat) (ai_84 _) (by omega) (by omega) (ae_84 _) ok (fun z4 hz4 hl4 hh4 => ?_)
        have e84 : z4 = tA t 84 k.toNat := by rw [hz4]
        refine w_cge (by omega) (fun h5 => ?_) (fun h5 => ?_)
        · skip
          refine w_step rfl ?_
          refine w_push kc_m1000000005 ?_
          refine w_retI rfl ?_
          exact ⟨rfl, (by first | (exact Or.inl ⟨by omega, by first | omega | (subst_vars; rfl)⟩) | (exact Or.inr (Or.inl ⟨by omega, by omega, by first | omega | (subst_vars; rfl)⟩)) | (exact Or.inr (Or.inr (⟨by omega, by omega, by first | exact Or.inl ⟨rfl, fun i h1 h2 => i3_3 i h1 (by omega)⟩ | exact Or.inr ⟨by omega, by omega, by show (_ ∧ _); omega, i3_3⟩⟩))))⟩
        refine w_aload rfl ?_
        refine w_getR (g_68_28 _) ?_
        refine w_push kc_24 ?_
        refine w_iload rfl ?_
        refine w_mul ?_
        refine w_iload rfl ?_
        refine w_add ?_
        refine w_iald (i := (((24 * k) + p)).toNat) (ai_85 _) (by omega) (by omega) (ae_85 _) ok (fun z6 hz6 hl6 hh6 => ?_)
        have e85 : z6 = tA t 85 (24 * k.toNat + p.toNat) := by rw [hz6]; congr 1; omega
        refine w_istore (lv' := [some (.ref 68), some (.int (jI k)), some (.int (jI p)), some (.int (jI z6))]) rfl ?_
        refine w_iload rfl ?_
        refine w_push kc_m1000000005 ?_
        refine w_ceq (by omega) (fun h7 => ?_) (fun h7 => ?_)
        · skip
          refine w_step rfl ?_
          refine w_iinc (lv' := [some (.ref 68), some (.int (jI k)), some (.int (jI (p + 1))), some (.int (jI z6))]) kc_1 rfl rfl ?_
          refine w_goto ?_
          exact ih3 _ (p + 1) (some z6)  (by omega) (by omega) (by omega) (fun i h1 h2 => (Int.lt_or_eq_of_le (show i ≤ p by omega)).elim (i3_3 i h1) (fun e => by rw [e]; show ¬ (_ ∧ _); omega)) (by omega) (by omega)
        refine w_iload rfl ?_
        refine w_push kc_11 ?_
        refine w_cgt (by omega) (fun h8 => ?_) (fun h8 => ?_)
        · skip
          refine w_step rfl ?_
          refine w_iload rfl ?_
          refine w_retI rfl ?_
          exact ⟨rfl, (by first | (exact Or.inl ⟨by omega, by first | omega | (subst_vars; rfl)⟩) | (exact Or.inr (Or.inl ⟨by omega, by omega, by first | omega | (subst_vars; rfl)⟩)) | (exact Or.inr (Or.inr (⟨by omega, by omega, by first | exact Or.inl ⟨rfl, fun i h1 h2 => i3_3 i h1 (by omega)⟩ | exact Or.inr ⟨by omega, by omega, by show (_ ∧ _); omega, i3_3⟩⟩))))⟩
        refine w_iload rfl ?_
        refine w_aload rfl ?_
        refine w_iload rfl ?_
        refine w_callV1I (oj_68 _).choose_spec rfl (e_X9_holder ok (by omega) (by omega)) ?_
        rintro z9 t9 ⟨rfl, hp9_0, hp9_1, hp9_2⟩
        have eat : z9 = atA t 69 0 ((p.toNat : Nat) : Int) := by rw [hp9_2, rh_at, Int.toNat_of_nonneg (by omega)]
        refine w_ceq (by omega) (fun h10 => ?_) (fun h10 => ?_)
        · skip
          refine w_step rfl ?_
          refine w_iinc (lv' := [some (.ref 68), some (.int (jI k)), some (.int (jI (p + 1))), some (.int (jI z6))]) kc_1 rfl rfl ?_
          refine w_goto ?_
          exact ih3 _ (p + 1) (some z6)  (by omega) (by omega) (by omega) (fun i h1 h2 => (Int.lt_or_eq_of_le (show i ≤ p by omega)).elim (i3_3 i h1) (fun e => by rw [e]; show ¬ (_ ∧ _); omega)) (by omega) (by omega)
        refine w_goto ?_
        refine w_step rfl ?_
        refine w_iload rfl ?_
        refine w_retI rfl ?_
        exact ⟨rfl, (by first | (exact Or.inl ⟨by omega, by first | omega | (subst_vars; rfl)⟩) | (exact Or.inr (Or.inl ⟨by omega, by omega, by first | omega | (subst_vars; rfl)⟩)) | (exact Or.inr (Or.inr (⟨by omega, by omega, by first | exact Or.inl ⟨rfl, fun i h1 h2 => i3_3 i h1 (by omega)⟩ | exact Or.inr ⟨by omega, by omega, by show (_ ∧ _); omega, i3_3⟩⟩))))⟩
    exact key3 25 _ 0 none  (by omega) (by omega) (by omega) (fun i h1 h2 => by omega) (by omega) (by omega)
  refine w_push kc_m1000000011 ?_
  refine w_retI rfl ?_
  exact ⟨rfl, (by first | (exact Or.inl ⟨by omega, by first | omega | (subst_vars; rfl)⟩) | (exact Or.inr (Or.inl ⟨by omega, by omega, by first | omega | (subst_vars; rfl)⟩)) | (exact Or.inr (Or.inr (⟨by omega, by omega, by first | exact Or.inl ⟨rfl, fun i h1 h2 => i3_3 i h1 (by omega)⟩ | exact Or.inr ⟨by omega, by omega, by show (_ ∧ _); omega, i3_3⟩⟩))))⟩
set_option maxRecDepth 100000 in
set_option maxHeartbeats 4000000 in
theorem e_X9_count {d : Nat} {t : TS} {w : Int}  (ok : OK t) (q0 : -2147483648 ≤ w) (q1 : w ≤ 2147483647) : CI (EX FU (d + 3)) 221 [.ref 68, .int (jI w)] (mk t) (fun z t' => t = t' ∧ (((w = 0) ∧ z = tA t 69 1) ∨ ((w = 1) ∧ z = tA t 69 2) ∨ ((w = 2) ∧ z = tA t 69 3) ∨ ((w = 3) ∧ z = tA t 69 1 - caA t 69 0) ∨ ((w = 4) ∧ z = tA t 69 4) ∨ ((w = 5) ∧ z = tI t 68 35) ∨ ((w = 6) ∧ z = tI t 68 9) ∨ ((w = 7) ∧ z = tA t 69 0) ∨ ((¬ (0 ≤ w ∧ w ≤ 7)) ∧ z = (-1000000001)))) := by
  refine CI_ent (d := d + 2) (Bk := bX9_count) (nL := 2) rfl rfl rfl (Nat.le_of_ble_eq_true rfl) ?_
  show Rn _ 1000000 0 [some (.ref 68), some (.int (jI w))] [] _ _
  have hn0 := (ok.a (ax_69 nr_1)).1
  have hn1 := (ok.a (ax_69 nr_1)).2
  refine w_step rfl ?_
  refine w_iload rfl ?_
  have hs1 : w = 0 ∨ w = 1 ∨ w = 2 ∨ w = 3 ∨ w = 4 ∨ w = 5 ∨ w = 6 ∨ w = 7 ∨ (w < 0 ∨ 0 + 8 ≤ w) := (by omega)
  rcases hs1 with hs1 | hs1 | hs1 | hs1 | hs1 | hs1 | hs1 | hs1 | hs1
  · refine w_sw (n := 1) (tsw_at hs1 (by decide)) ?_
    refine w_step rfl ?_
    refine w_aload rfl ?_
    refine w_getR (g_68_0 _) ?_
    refine w_push kc_1 ?_
    refine w_iald (i := 1) (ai_69 _) (by omega) (by omega) (ax_69 nr_1) ok (fun z2 hz2 hl2 hh2 => ?_)
    refine w_retI rfl ?_
    exact ⟨rfl, (by first | (exact Or.inl ⟨by omega, by omega⟩) | (exact Or.inr (Or.inl ⟨by omega, by omega⟩)) | (exact Or.inr (Or.inr (Or.inl ⟨by omega, by omega⟩))) | (exact Or.inr (Or.inr (Or.inr (Or.inl ⟨by omega, by omega⟩)))) | (exact Or.inr (Or.inr (Or.inr (Or.inr (Or.inl ⟨by omega, by omega⟩))))) | (exact Or.inr (Or.inr (Or.inr (Or.inr (Or.inr (Or.inl ⟨by omega, by omega⟩)))))) | (exact Or.inr (Or.inr (Or.inr (Or.inr (Or.inr (Or.inr (Or.inl ⟨by omega, by omega⟩))))))) | (exact Or.inr (Or.inr (Or.inr (Or.inr (Or.inr (Or.inr (Or.inr (Or.inl ⟨by omega, by omega⟩)))))))) | (exact Or.inr (Or.inr (Or.inr (Or.inr (Or.inr (Or.inr (Or.inr (Or.inr (⟨by omega, by first | omega | (subst_vars; rfl)⟩))))))))))⟩
  · refine w_sw (n := 2) (tsw_at hs1 (by decide)) ?_
    refine w_step rfl ?_
    refine w_aload rfl ?_
    refine w_getR (g_68_0 _) ?_
    refine w_push kc_2 ?_
    refine w_iald (i := 2) (ai_69 _) (by omega) (by omega) (ax_69 nr_2) ok (fun z3 hz3 hl3 hh3 => ?_)
    refine w_retI rfl ?_
    exact ⟨rfl, (by first | (exact Or.inl ⟨by omega, by omega⟩) | (exact Or.inr (Or.inl ⟨by omega, by omega⟩)) | (exact Or.inr (Or.inr (Or.inl ⟨by omega, by omega⟩))) | (exact Or.inr (Or.inr (Or.inr (Or.inl ⟨by omega, by omega⟩)))) | (exact Or.inr (Or.inr (Or.inr (Or.inr (Or.inl ⟨by omega, by omega⟩))))) | (exact Or.inr (Or.inr (Or.inr (Or.inr (Or.inr (Or.inl ⟨by omega, by omega⟩)))))) | (exact Or.inr (Or.inr (Or.inr (Or.inr (Or.inr (Or.inr (Or.inl ⟨by omega, by omega⟩))))))) | (exact Or.inr (Or.inr (Or.inr (Or.inr (Or.inr (Or.inr (Or.inr (Or.inl ⟨by omega, by omega⟩)))))))) | (exact Or.inr (Or.inr (Or.inr (Or.inr (Or.inr (Or.inr (Or.inr (Or.inr (⟨by omega, by first | omega | (subst_vars; rfl)⟩))))))))))⟩
  · refine w_sw (n := 3) (tsw_at hs1 (by decide)) ?_
    refine w_step rfl ?_
    refine w_aload rfl ?_
    refine w_getR (g_68_0 _) ?_
    refine w_push kc_3 ?_
    refine w_iald (i := 3) (ai_69 _) (by omega) (by omega) (ax_69 nr_3) ok (fun z4 hz4 hl4 hh4 => ?_)
    refine w_retI rfl ?_
    exact ⟨rfl, (by first | (exact Or.inl ⟨by omega, by omega⟩) | (exact Or.inr (Or.inl ⟨by omega, by omega⟩)) | (exact Or.inr (Or.inr (Or.inl ⟨by omega, by omega⟩))) | (exact Or.inr (Or.inr (Or.inr (Or.inl ⟨by omega, by omega⟩)))) | (exact Or.inr (Or.inr (Or.inr (Or.inr (Or.inl ⟨by omega, by omega⟩))))) | (exact Or.inr (Or.inr (Or.inr (Or.inr (Or.inr (Or.inl ⟨by omega, by omega⟩)))))) | (exact Or.inr (Or.inr (Or.inr (Or.inr (Or.inr (Or.inr (Or.inl ⟨by omega, by omega⟩))))))) | (exact Or.inr (Or.inr (Or.inr (Or.inr (Or.inr (Or.inr (Or.inr (Or.inl ⟨by omega, by omega⟩)))))))) | (exact Or.inr (Or.inr (Or.inr (Or.inr (Or.inr (Or.inr (Or.inr (Or.inr (⟨by omega, by first | omega | (subst_vars; rfl)⟩))))))))))⟩
  · refine w_sw (n := 4) (tsw_at hs1 (by decide)) ?_
    refine w_step rfl ?_
    refine w_aload rfl ?_
    refine w_getR (g_68_0 _) ?_
    refine w_push kc_1 ?_
    refine w_iald (i := 1) (ai_69 _) (by omega) (by omega) (ax_69 nr_1) ok (fun z5 hz5 hl5 hh5 => ?_)
    refine w_aload rfl ?_
    refine w_callV0I (oj_68 _).choose_spec rfl (e_X9_manyLaid ok) ?_
    rintro z6 t6 ⟨rfl, hp6_0, hp6_1, hp6_2⟩
    have ecn : z6 = caA t 69 0 := hp6_2
    refine w_sub ?_
    refine w_retI rfl ?_
    exact ⟨rfl, (by first | (exact Or.inl ⟨by omega, by omega⟩) | (exact Or.inr (Or.inl ⟨by omega, by omega⟩)) | (exact Or.inr (Or.inr (Or.inl ⟨by omega, by omega⟩))) | (exact Or.inr (Or.inr (Or.inr (Or.inl ⟨by omega, by omega⟩)))) | (exact Or.inr (Or.inr (Or.inr (Or.inr (Or.inl ⟨by omega, by omega⟩))))) | (exact Or.inr (Or.inr (Or.inr (Or.inr (Or.inr (Or.inl ⟨by omega, by omega⟩)))))) | (exact Or.inr (Or.inr (Or.inr (Or.inr (Or.inr (Or.inr (Or.inl ⟨by omega, by omega⟩))))))) | (exact Or.inr (Or.inr (Or.inr (Or.inr (Or.inr (Or.inr (Or.inr (Or.inl ⟨by omega, by omega⟩)))))))) | (exact Or.inr (Or.inr (Or.inr (Or.inr (Or.inr (Or.inr (Or.inr (Or.inr (⟨by omega, by first | omega | (subst_vars; rfl)⟩))))))))))⟩
  · refine w_sw (n := 5) (tsw_at hs1 (by decide)) ?_
    refine w_step rfl ?_
    refine w_aload rfl ?_
    refine w_getR (g_68_0 _) ?_
    refine w_push kc_4 ?_
    refine w_iald (i := 4) (ai_69 _) (by omega) (by omega) (ax_69 nr_4) ok (fun z7 hz7 hl7 hh7 => ?_)
    refine w_retI rfl ?_
    exact ⟨rfl, (by first | (exact Or.inl ⟨by omega, by omega⟩) | (exact Or.inr (Or.inl ⟨by omega, by omega⟩)) | (exact Or.inr (Or.inr (Or.inl ⟨by omega, by omega⟩))) | (exact Or.inr (Or.inr (Or.inr (Or.inl ⟨by omega, by omega⟩)))) | (exact Or.inr (Or.inr (Or.inr (Or.inr (Or.inl ⟨by omega, by omega⟩))))) | (exact Or.inr (Or.inr (Or.inr (Or.inr (Or.inr (Or.inl ⟨by omega, by omega⟩)))))) | (exact Or.inr (Or.inr (Or.inr (Or.inr (Or.inr (Or.inr (Or.inl ⟨by omega, by omega⟩))))))) | (exact Or.inr (Or.inr (Or.inr (Or.inr (Or.inr (Or.inr (Or.inr (Or.inl ⟨by omega, by omega⟩)))))))) | (exact Or.inr (Or.inr (Or.inr (Or.inr (Or.inr (Or.inr (Or.inr (Or.inr (⟨by omega, by first | omega | (subst_vars; rfl)⟩))))))))))⟩
  · refine w_sw (n := 6) (tsw_at hs1 (by decide)) ?_
    refine w_step rfl ?_
    refine w_aload rfl ?_
    refine w_getI (g_68_35 _) fe_68_35 ok (fun z8 hz8 hl8 hh8 => ?_)
    refine w_retI rfl ?_
    exact ⟨rfl, (by first | (exact Or.inl ⟨by omega, by omega⟩) | (exact Or.inr (Or.inl ⟨by omega, by omega⟩)) | (exact Or.inr (Or.inr (Or.inl ⟨by omega, by omega⟩))) | (exact Or.inr (Or.inr (Or.inr (Or.inl ⟨by omega, by omega⟩)))) | (exact Or.inr (Or.inr (Or.inr (Or.inr (Or.inl ⟨by omega, by omega⟩))))) | (exact Or.inr (Or.inr (Or.inr (Or.inr (Or.inr (Or.inl ⟨by omega, by omega⟩)))))) | (exact Or.inr (Or.inr (Or.inr (Or.inr (Or.inr (Or.inr (Or.inl ⟨by omega, by omega⟩))))))) | (exact Or.inr (Or.inr (Or.inr (Or.inr (Or.inr (Or.inr (Or.inr (Or.inl ⟨by omega, by omega⟩)))))))) | (exact Or.inr (Or.inr (Or.inr (Or.inr (Or.inr (Or.inr (Or.inr (Or.inr (⟨by omega, by first | omega | (subst_vars; rfl)⟩))))))))))⟩
  · refine w_sw (n := 7) (tsw_at hs1 (by decide)) ?_
    refine w_step rfl ?_
    refine w_aload rfl ?_
    refine w_getI (g_68_9 _) fe_68_9 ok (fun z9 hz9 hl9 hh9 => ?_)
    refine w_retI rfl ?_
    exact ⟨rfl, (by first | (exact Or.inl ⟨by omega, by omega⟩) | (exact Or.inr (Or.inl ⟨by omega, by omega⟩)) | (exact Or.inr (Or.inr (Or.inl ⟨by omega, by omega⟩))) | (exact Or.inr (Or.inr (Or.inr (Or.inl ⟨by omega, by omega⟩)))) | (exact Or.inr (Or.inr (Or.inr (Or.inr (Or.inl ⟨by omega, by omega⟩))))) | (exact Or.inr (Or.inr (Or.inr (Or.inr (Or.inr (Or.inl ⟨by omega, by omega⟩)))))) | (exact Or.inr (Or.inr (Or.inr (Or.inr (Or.inr (Or.inr (Or.inl ⟨by omega, by omega⟩))))))) | (exact Or.inr (Or.inr (Or.inr (Or.inr (Or.inr (Or.inr (Or.inr (Or.inl ⟨by omega, by omega⟩)))))))) | (exact Or.inr (Or.inr (Or.inr (Or.inr (Or.inr (Or.inr (Or.inr (Or.inr (⟨by omega, by first | omega | (subst_vars; rfl)⟩))))))))))⟩
  · refine w_sw (n := 8) (tsw_at hs1 (by decide)) ?_
    refine w_step rfl ?_
    refine w_aload rfl ?_
    refine w_getR (g_68_0 _) ?_
    refine w_push kc_0 ?_
    refine w_iald (i := 0) (ai_69 _) (by omega) (by omega) (ax_69 nr_0) ok (fun z10 hz10 hl10 hh10 => ?_)
    refine w_retI rfl ?_
    exact ⟨rfl, (by first | (exact Or.inl ⟨by omega, by omega⟩) | (exact Or.inr (Or.inl ⟨by omega, by omega⟩)) | (exact Or.inr (Or.inr (Or.inl ⟨by omega, by omega⟩))) | (exact Or.inr (Or.inr (Or.inr (Or.inl ⟨by omega, by omega⟩)))) | (exact Or.inr (Or.inr (Or.inr (Or.inr (Or.inl ⟨by omega, by omega⟩))))) | (exact Or.inr (Or.inr (Or.inr (Or.inr (Or.inr (Or.inl ⟨by omega, by omega⟩)))))) | (exact Or.inr (Or.inr (Or.inr (Or.inr (Or.inr (Or.inr (Or.inl ⟨by omega, by omega⟩))))))) | (exact Or.inr (Or.inr (Or.inr (Or.inr (Or.inr (Or.inr (Or.inr (Or.inl ⟨by omega, by omega⟩)))))))) | (exact Or.inr (Or.inr (Or.inr (Or.inr (Or.inr (Or.inr (Or.inr (Or.inr (⟨by omega, by first | omega | (subst_vars; rfl)⟩))))))))))⟩
  · refine w_sw (n := 9) (tsw_df (m := 8) rfl (by omega) (by omega)) ?_
    refine w_step rfl ?_
    refine w_push kc_m1000000001 ?_
    refine w_retI rfl ?_
    exact ⟨rfl, (by first | (exact Or.inl ⟨by omega, by omega⟩) | (exact Or.inr (Or.inl ⟨by omega, by omega⟩)) | (exact Or.inr (Or.inr (Or.inl ⟨by omega, by omega⟩))) | (exact Or.inr (Or.inr (Or.inr (Or.inl ⟨by omega, by omega⟩)))) | (exact Or.inr (Or.inr (Or.inr (Or.inr (Or.inl ⟨by omega, by omega⟩))))) | (exact Or.inr (Or.inr (Or.inr (Or.inr (Or.inr (Or.inl ⟨by omega, by omega⟩)))))) | (exact Or.inr (Or.inr (Or.inr (Or.inr (Or.inr (Or.inr (Or.inl ⟨by omega, by omega⟩))))))) | (exact Or.inr (Or.inr (Or.inr (Or.inr (Or.inr (Or.inr (Or.inr (Or.inl ⟨by omega, by omega⟩)))))))) | (exact Or.inr (Or.inr (Or.inr (Or.inr (Or.inr (Or.inr (Or.inr (Or.inr (⟨by omega, by first | omega | (subst_vars; rfl)⟩))))))))))⟩
set_option maxRecDepth 100000 in
set_option maxHeartbeats 4000000 in
theorem e_X9_feed {d : Nat} {t : TS} {x y w : Int}  (ok : OK t) (q0 : -2147483648 ≤ x) (q1 : x ≤ 2147483647) (q2 : -2147483648 ≤ y) (q3 : y ≤ 2147483647) (q4 : -2147483648 ≤ w) (q5 : w ≤ 2147483647) : CI (EX FU (d + 1)) 187 [.ref 68, .int (jI x), .int (jI y), .int (jI w)] (mk t) (fun z t' => OK t' ∧ Fr [(68, 9), (75, 100)] t t' ∧ (((96 < tI t 68 9 + 12) ∧ z = (-1000000003) ∧ t' = t) ∨ ((tI t 68 9 + 12 ≤ 96) ∧ z = tI t 68 9 + 12 ∧ (tI t' 68 9 = tI t 68 9 + 12) ∧ (∀ m : Nat, tA t' 75 m = if tI t 68 9 ≤ (m : Int) ∧ (m : Int) < tI t 68 9 + 12 then fbF x y w (m - (tI t 68 9).toNat) else tA t 75 m)))) := by
  refine CI_ent (d := d + 0) (Bk := bX9_feed) (nL := 6) rfl rfl rfl (Nat.le_of_ble_eq_true rfl) ?_
  show Rn _ 1000000 0 [some (.ref 68), some (.int (jI x)), some (.int (jI y)), some (.int (jI w)), none, none] [] _ _
  have fr : Fr [(68, 9), (75, 100)] t t := Fr.rf _ _
  have hn0 := (ok.a (ax_69 nr_1)).1
  have hn1 := (ok.a (ax_69 nr_1)).2
  refine w_step rfl ?_
  refine w_aload rfl ?_
  refine w_getI (g_68_9 _) fe_68_9 ok (fun z1 hz1 hl1 hh1 => ?_)
  refine w_push kc_12 ?_
  refine w_add ?_
  refine w_push kc_96 ?_
  refine w_cle (by omega) (fun h2 => ?_) (fun h2 => ?_)
  · skip
    refine w_step rfl ?_
    refine w_push kc_0 ?_
    refine w_istore (lv' := [some (.ref 68), some (.int (jI x)), some (.int (jI y)), some (.int (jI w)), some (.int (jI 0)), none]) rfl ?_
    refine w_goto ?_
    have key2 : ∀ (n2 M2 : Nat) (k : Int) (o5 : Option Int) (t3 : TS), OK t3 → Fr [(68, 9), (75, 100)] t t3 → (0 ≤ k) → (k ≤ 12) → (tI t3 68 9 = tI t 68 9) → (∀ m : Nat, tA t3 75 m = if tI t 68 9 ≤ (m : Int) ∧ (m : Int) < tI t 68 9 + k then fbF x y w (m - (tI t 68 9).toNat) else tA t 75 m) → 12 - k < (n2 : Int) → 60 * n2 + (1000) ≤ M2 → Rn (bX9_feed (EX FU (d + 0))) M2 2 [some (.ref 68), some (.int (jI x)), some (.int (jI y)), some (.int (jI w)), some (.int (jI k)), dv o5] [] (mk t3) (PI (fun z t' => OK t' ∧ Fr [(68, 9), (75, 100)] t t' ∧ (((96 < tI t 68 9 + 12) ∧ z = (-1000000003) ∧ t' = t) ∨ ((tI t 68 9 + 12 ≤ 96) ∧ z = tI t 68 9 + 12 ∧ (tI t' 68 9 = tI t 68 9 + 12) ∧ (∀ m : Nat, tA t' 75 m = if tI t 68 9 ≤ (m : Int) ∧ (m : Int) < tI t 68 9 + 12 then fbF x y w (m - (tI t 68 9).toNat) else tA t 75 m))))) := by
      intro n2
      induction n2 with
      | zero => intro M2 k o5 t3 ok3 fr3 i2_0 i2_1 i2_2 i2_3 v2 f2; exfalso; omega
      | succ n2 ih2 =>
        intro M2 k o5 t3 ok3 fr3 i2_0 i2_1 i2_2 i2_3 v2 f2
        obtain ⟨M2, rfl⟩ : ∃ m, M2 = m + 60 := ⟨M2 - 60, by omega⟩
        refine w_step rfl ?_
        refine w_iload rfl ?_
        refine w_push kc_12 ?_
        refine w_cge (by omega) (fun h4 => ?_) (fun h4 => ?_)
        · skip
          refine w_step rfl ?_
          refine w_aload rfl ?_
          refine w_dupR ?_
          refine w_getI (g_68_9 _) fe_68_9 ok3 (fun z5 hz5 hl5 hh5 => ?_)
          refine w_push kc_12 ?_
          refine w_add ?_
          refine w_putI (p_68_9 _) fe_68_9 ok3 (by omega) (fun t6 ht6 ok6 => ?_)
          have fr6 := fr3.uI ht6 (by simp)
          have ex : tI t6 68 9 = tI t 68 9 + 12 := by rw [ht6, tI_uI, if_pos ⟨rfl, rfl⟩]; omega
          have e75 := ht6
          refine w_aload rfl ?_
          refine w_getI (g_68_9 _) fe_68_9 ok6 (fun z7 hz7 hl7 hh7 => ?_)
          refine w_retI rfl ?_
          exact ⟨ok6, fr6, (by first | (exact Or.inl ⟨by omega, by first | omega | (subst_vars; rfl), rfl⟩) | (exact Or.inr (⟨by omega, by first | omega | (subst_vars; rfl), by omega, by intro m; rw [e75, tA_uI, i2_3 m, show k = 12 by omega]⟩)))⟩
        refine w_iload rfl ?_
        refine w_push kc_4 ?_
        refine w_cge (by omega) (fun h8 => ?_) (fun h8 => ?_)
        · skip
          refine w_step rfl ?_
          refine w_iload rfl ?_
          refine w_push kc_8 ?_
          refine w_cge (by omega) (fun h9 => ?_) (fun h9 => ?_)
          · skip
            refine w_step rfl ?_
            refine w_iload rfl ?_
            refine w_goto ?_
            refine w_step rfl ?_
            refine w_istore (lv' := [some (.ref 68), some (.int (jI x)), some (.int (jI y)), some (.int (jI w)), some (.int (jI k)), some (.int (jI w))]) rfl ?_
            refine w_aload rfl ?_
            refine w_getR (g_68_8 _) ?_
            refine w_aload rfl ?_
            refine w_getI (g_68_9 _) fe_68_9 ok3 (fun z10 hz10 hl10 hh10 => ?_)
            refine w_iload rfl ?_
            refine w_add ?_
            have hix : (z10 + k) = tI t 68 9 + k := by omega
            refine w_iload rfl ?_
            refine w_push kc_24 ?_
            refine w_push kc_8 ?_
            refine w_iload rfl ?_
            refine w_push kc_4 ?_
            refine w_rem (by omega) ?_
            refine w_mul ?_
            refine w_sub ?_
            refine w_bin (fun z11 hz11 hl11 hh11 => ?_)
            have hsh := hz11
            refine w_push kc_255 ?_
            refine w_bin (fun z12 hz12 hl12 hh12 => ?_)
            have hu12 := ah_and255 hz12
            refine w_iast (i := ((z10 + k)).toNat) (ai_75 _) rfl (by omega) (by omega) (ae_75 _) ok3 (by omega) (fun t13 ht13 ok13 => ?_)
            have fr13 := fr3.uA ht13 (by simp)
            have ew : tI t13 68 9 = tI t 68 9 := by rw [ht13, tI_uA]; exact i2_2
            refine w_iinc (lv' := [some (.ref 68), some (.int (jI x)), some (.int (jI y)), some (.int (jI w)), some (.int (jI (k + 1))), some (.int (jI w))]) kc_1 rfl rfl ?_
            refine w_goto ?_
            exact ih2 _ (k + 1) (some w) t13 ok13 fr13 (by omega) (by omega) ew (fd_s (ok.f fe_68_9).1 (by omega) i2_3 (by omega) hsh hz12 hix ht13) (by omega) (by omega)
          refine w_iload rfl ?_
          refine w_goto ?_
          refine w_step rfl ?_
          refine w_istore (lv' := [some (.ref 68), some (.int (jI x)), some (.int (jI y)), some (.int (jI w)), some (.int (jI k)), some (.int (jI y))]) rfl ?_
          refine w_aload rfl ?_
          refine w_getR (g_68_8 _) ?_
          refine w_aload rfl ?_
          refine w_getI (g_68_9 _) fe_68_9 ok3 (fun z14 hz14 hl14 hh14 => ?_)
          refine w_iload rfl ?_
          refine w_add ?_
          have hix : (z14 + k) = tI t 68 9 + k := by omega
          refine w_iload rfl ?_
          refine w_push kc_24 ?_
          refine w_push kc_8 ?_
          refine w_iload rfl ?_
          refine w_push kc_4 ?_
          refine w_rem (by omega) ?_
          refine w_mul ?_
          refine w_sub ?_
          refine w_bin (fun z15 hz15 hl15 hh15 => ?_)
          have hsh := hz15
          refine w_push kc_255 ?_
          refine w_bin (fun z16 hz16 hl16 hh16 => ?_)
          have hu16 := ah_and255 hz16
          refine w_iast (i := ((z14 + k)).toNat) (ai_75 _) rfl (by omega) (by omega) (ae_75 _) ok3 (by omega) (fun t17 ht17 ok17 => ?_)
          have fr17 := fr3.uA ht17 (by simp)
          have ew : tI t17 68 9 = tI t 68 9 := by rw [ht17, tI_uA]; exact i2_2
          refine w_iinc (lv' := [some (.ref 68), some (.int (jI x)), some (.int (jI y)), some (.int (jI w)), some (.int (jI (k + 1))), some (.int (jI y))]) kc_1 rfl rfl ?_
          refine w_goto ?_
          exact ih2 _ (k + 1) (some y) t17 ok17 fr17 (by omega) (by omega) ew (fd_s (ok.f fe_68_9).1 (by omega) i2_3 (by omega) hsh hz16 hix ht17) (by omega) (by omega)
        refine w_iload rfl ?_
        refine w_goto ?_
        refine w_step rfl ?_
        refine w_istore (lv' := [some (.ref 68), some (.int (jI x)), some (.int (jI y)), some (.int (jI w)), some (.int (jI k)), some (.int (jI x))]) rfl ?_
        refine w_aload rfl ?_
        refine w_getR (g_68_8 _) ?_
        refine w_aload rfl ?_
        refine w_getI (g_68_9 _) fe_68_9 ok3 (fun z18 hz18 hl18 hh18 => ?_)
        refine w_iload rfl ?_
        refine w_add ?_
        have hix : (z18 + k) = tI t 68 9 + k := by omega
        refine w_iload rfl ?_
        refine w_push kc_24 ?_
        refine w_push kc_8 ?_
        refine w_iload rfl ?_
        refine w_push kc_4 ?_
        refine w_rem (by omega) ?_
        refine w_mul ?_
        refine w_sub ?_
        refine w_bin (fun z19 hz19 hl19 hh19 => ?_)
        have hsh := hz19
        refine w_push kc_255 ?_
        refine w_bin (fun z20 hz20 hl20 hh20 => ?_)
        have hu20 := ah_and255 hz20
        refine w_iast (i := ((z18 + k)).toNat) (ai_75 _) rfl (by omega) (by omega) (ae_75 _) ok3 (by omega) (fun t21 ht21 ok21 => ?_)
        have fr21 := fr3.uA ht21 (by simp)
        have ew : tI t21 68 9 = tI t 68 9 := by rw [ht21, tI_uA]; exact i2_2
        refine w_iinc (lv' := [some (.ref 68), some (.int (jI x)), some (.int (jI y)), some (.int (jI w)), some (.int (jI (k + 1))), some (.int (jI x))]) kc_1 rfl rfl ?_
        refine w_goto ?_
        exact ih2 _ (k + 1) (some x) t21 ok21 fr21 (by omega) (by omega) ew (fd_s (ok.f fe_68_9).1 (by omega) i2_3 (by omega) hsh hz20 hix ht21) (by omega) (by omega)
    exact key2 13 _ 0 none t ok fr (by omega) (by omega) rfl (by intro m; rw [if_neg (by omega)]) (by omega) (by omega)
  refine w_push kc_m1000000003 ?_
  refine w_retI rfl ?_
  exact ⟨ok, fr, (by first | (exact Or.inl ⟨by omega, by first | omega | (subst_vars; rfl), rfl⟩) | (exact Or.inr (⟨by omega, by first | omega | (subst_vars; rfl), by omega, by intro m; rw [e75, tA_uI, i2_3 m, show k = 12 by omega]⟩)))⟩
end
section
theorem ok_x {C : Int → Prop} {g : Int} (h : ∀ i : Int, 0 ≤ i → i < g → C i) (e : C g) : ∀ i : Int, 0 ≤ i → i < g + 1 → C i := by
  intro i h1 h2
  by_cases q : i = g
  · subst q; exact e
  · exact h i h1 (by omega)
set_option maxRecDepth 100000 in
set_option maxHeartbeats 4000000 in
theorem e_X9_check {d : Nat} {t : TS} {n : Int}  (ok : OK t) (q0 : WF t 69) (q1 : NZ t 69) (q2 : tI t 68 4 = -1) (q3 : WF t 70) (q4 : NZ t 70) (q5 : -2147483648 ≤ n) (q6 : n ≤ 2147483647) (q7 : 0 ≤ tA t 70 2) (q8 : tA t 70 2 ≤ 9999) : CI (EX FU (d + 7)) 218 [.ref 68, .int (jI n)] (mk t) (fun z t' => OK t' ∧ Fr [(68, 35), (69, 100), (71, 100), (81, 100), (82, 100)] t t' ∧ (tI t' 68 35 = 0) ∧ (∀ i : Nat, i < 1461 → tA t' 69 i = tA t 69 i) ∧ (((¬ (1 ≤ n ∧ n ≤ 30)) ∧ z = (-1000000001)) ∨ ((1 ≤ n ∧ n ≤ 30) ∧ (tI t 68 3 = 0) ∧ z = (-1000000002)) ∨ ((1 ≤ n ∧ n ≤ 30) ∧ (¬ tI t 68 3 = 0) ∧ (CkP (pcA t 70) (mtA t 70) (tA t 91) (tI t 68 35) (2 * (min n (9999 - tA t 70 2))) z)))) := by
  refine CI_ent (d := d + 6) (Bk := bX9_check) (nL := 6) rfl rfl rfl (Nat.le_of_ble_eq_true rfl) ?_
  show Rn _ 1000000 0 [some (.ref 68), some (.int (jI n)), none, none, none, none] [] _ _
  have fr : Fr [(68, 35), (69, 100), (71, 100), (81, 100), (82, 100)] t t := Fr.rf _ _
  have hn0 := (ok.a (ax_69 nr_1)).1
  have hn1 := (ok.a (ax_69 nr_1)).2
  have hn70 := (ok.a (ax_70 nr_1)).2
  have hc70 := (ok.a (ax_70 nr_4)).2
  refine w_step rfl ?_
  refine w_aload rfl ?_
  refine w_getI (g_68_35 _) fe_68_35 ok (fun z1 hz1 hl1 hh1 => ?_)
  have ew8 := hz1
  refine w_istore (lv' := [some (.ref 68), some (.int (jI n)), some (.int (jI z1)), none, none, none]) rfl ?_
  refine w_aload rfl ?_
  refine w_push kc_0 ?_
  refine w_putI (p_68_35 _) fe_68_35 ok (by omega) (fun t2 ht2 ok2 => ?_)
  have fr2 := fr.uI ht2 (by simp)
  have wf2 := q0.uI ht2
  have ew : tI t2 68 35 = 0 := by rw [ht2, tI_uI, if_pos ⟨rfl, rfl⟩]
  have e6 : ∀ c i, tA t2 c i = tA t c i := fun c i => by rw [ht2, tA_uI]
  have e4 : tI t2 68 4 = -1 := by rw [ht2, tI_uI, if_neg (by decide)]; exact q2
  refine w_iload rfl ?_
  refine w_push kc_1 ?_
  refine w_push kc_30 ?_
  refine w_callS3I rfl (c_X9_in ok2 (by omega) (by omega) (by omega) (by omega) (by omega) (by omega)) ?_
  rintro z3 t3 ⟨rfl, hp3_0⟩
  rcases hp3_0 with ⟨rfl, hp3_0⟩ | ⟨rfl, hp3_0⟩
  · skip
    refine w_ine (by omega) (fun h => absurd h (by omega)) (fun _ => ?_)
    refine w_push kc_m1000000001 ?_
    refine w_retI rfl ?_
    exact ⟨ok2, fr2, ew, (by first | exact pf | exact fun i _ => e6 69 i), (by first | (exact Or.inl ⟨by omega, by first | omega | (subst_vars; rfl)⟩) | (exact Or.inr (Or.inl ⟨by omega, by omega, by first | omega | (subst_vars; rfl)⟩)) | (exact Or.inr (Or.inr (⟨by omega, by omega, by rw [← ew8]; rw [← ew8] at i3_9 i3_10; first | exact ⟨g, ⟨by omega, by omega, i3_9, by omega⟩, by rw [if_pos ⟨by omega, by omega⟩]⟩ | exact ⟨g, ⟨by omega, by omega, i3_9, by omega⟩, by rw [if_neg (by omega)]⟩⟩))))⟩
  refine w_ine (by omega) (fun _ => ?_) (fun h => absurd (by omega) h)
  refine w_step rfl ?_
  refine w_aload rfl ?_
  refine w_getI (g_68_3 _) fe_68_3 ok2 (fun z4 hz4 hl4 hh4 => ?_)
  have e9 : z4 = tI t 68 3 := by rw [hz4, ht2, tI_uI, if_neg (by decide)]
  refine w_ine (by omega) (fun h5 => ?_) (fun h5 => ?_)
  · skip
    refine w_step rfl ?_
    refine w_aload rfl ?_
    refine w_getR (g_68_0 _) ?_
    refine w_aload rfl ?_
    refine w_getR (g_68_2 _) ?_
    refine w_callS2V rfl (c_X9_copyAll_69_71 ok2) ?_
    rintro t6 ⟨ok6, fq6, hp6_0⟩
    have fr6 := fr2.then fq6 (by simp)
    have wf6 := wf2.fr fq6 (by simp)
    have e7 : ∀ i : Nat, i < 1461 → tA t6 71 i = tA t 69 i := fun i hi => (hp6_0 i hi).trans (e6 69 i)
    have ew : tI t6 68 35 = 0 := (fq6.1 68 35 (by simp)).trans ew
    have e5 : ∀ i, tA t6 70 i = tA t 70 i := fun i => (fq6.2.1 70 (by simp) i).trans (e6 70 i)
    have e91 : ∀ i, tA t6 91 i = tA t 91 i := fun i => (fq6.2.1 91 (by simp) i).trans (e6 91 i)
    have e4 : tI t6 68 4 = -1 := (fq6.1 68 4 (by simp)).trans e4
    refine w_aload rfl ?_
    refine w_getR (g_68_1 _) ?_
    refine w_aload rfl ?_
    refine w_getR (g_68_0 _) ?_
    refine w_callS2V rfl (c_X9_copyAll_70_69 ok6) ?_
    rintro t7 ⟨ok7, fq7, hp7_0⟩
    have fr7 := fr6.then fq7 (by simp)
    have e7 : ∀ i : Nat, i < 1461 → tA t7 71 i = tA t 69 i := fun i hi => (fq7.2.1 71 (by simp) i).trans (e7 i hi)
    have ew : tI t7 68 35 = 0 := (fq7.1 68 35 (by simp)).trans ew
    have e91 : ∀ i, tA t7 91 i = tA t 91 i := fun i => (fq7.2.1 91 (by simp) i).trans (e91 i)
    have wf7 : WF t7 69 := WF.cp (c := 70) (e := 69) (ok.a (ax_70 nr_4)).2 q3 (fun i hi => (hp7_0 i (by omega)).trans (e5 i))
    have e4 : tI t7 68 4 = -1 := (fq7.1 68 4 (by simp)).trans e4
    have br : BRp t t7 70 0 := bq_0 q3 q4 hc70 hn70 (fun i hi => (hp7_0 i hi).trans (e5 i)) e4
    have ed := (hp7_0 2 (by decide)).trans (e5 2)
    refine w_push kc_2 ?_
    refine w_push kc_9999 ?_
    refine w_aload rfl ?_
    refine w_getR (g_68_0 _) ?_
    refine w_push kc_2 ?_
    refine w_iald (i := 2) (ai_69 _) (by omega) (by omega) (ax_69 nr_2) ok7 (fun z8 hz8 hl8 hh8 => ?_)
    have ed2 := hz8
    rw [ed] at ed2
    refine w_subW (fun z9 hz9 hl9 hh9 => ?_)
    have e17 : z9 = 9999 - tA t 70 2 := by rw [hz9, nrm_id (by omega)]; omega
    refine w_push kc_0 ?_
    refine w_iload rfl ?_
    refine w_callS3I rfl (c_X9_within ok7 (by omega) (by omega) (by omega) (by omega) (by omega) (by omega) (by omega)) ?_
    rintro z10 t10 ⟨rfl, hp10_0⟩
    have eMD : z10 = min n (9999 - tA t 70 2) := by omega
    refine w_mul ?_
    refine w_istore (lv' := [some (.ref 68), some (.int (jI n)), some (.int (jI z1)), some (.int (jI (2 * z10))), none, none]) rfl ?_
    refine w_push kc_0 ?_
    refine w_istore (lv' := [some (.ref 68), some (.int (jI n)), some (.int (jI z1)), some (.int (jI (2 * z10))), some (.int (jI 0)), none]) rfl ?_
    refine w_push kc_0 ?_
    refine w_istore (lv' := [some (.ref 68), some (.int (jI n)), some (.int (jI z1)), some (.int (jI (2 * z10))), some (.int (jI 0)), some (.int (jI 0))]) rfl ?_
    refine w_goto ?_
    have key3 : ∀ (n3 M3 : Nat) (g : Int) (k : Int) (t11 : TS), OK t11 → Fr [(68, 35), (69, 100), (71, 100), (81, 100), (82, 100)] t t11 → WF t11 69 → (0 ≤ k) → (k ≤ 30) → (0 ≤ g) → (g ≤ 2 * k) → (∀ i : Nat, i < 1461 → tA t11 71 i = tA t 69 i) → (tI t11 68 35 = 0) → (∀ i, tA t11 91 i = tA t 91 i) → (BRp t t11 70 k.toNat) → (k ≤ min n (9999 - tA t 70 2)) → (∀ i : Int, 0 ≤ i → i < g → i < tI t 68 35 ∧ tA t 91 (i).toNat = dueF (pcA t 70) (mtA t 70) i) → (g = 2 * k ∨ ¬ (g < tI t 68 35 ∧ tA t 91 (g).toNat = dueF (pcA t 70) (mtA t 70) g)) → 31 - k < (n3 : Int) → 60 * n3 + (1000) ≤ M3 → Rn (bX9_check (EX FU (d + 6))) M3 3 [some (.ref 68), some (.int (jI n)), some (.int (jI z1)), some (.int (jI (2 * z10))), some (.int (jI g)), some (.int (jI k))] [] (mk t11) (PI (fun z t' => OK t' ∧ Fr [(68, 35), (69, 100), (71, 100), (81, 100), (82, 100)] t t' ∧ (tI t' 68 35 = 0) ∧ (∀ i : Nat, i < 1461 → tA t' 69 i = tA t 69 i) ∧ (((¬ (1 ≤ n ∧ n ≤ 30)) ∧ z = (-1000000001)) ∨ ((1 ≤ n ∧ n ≤ 30) ∧ (tI t 68 3 = 0) ∧ z = (-1000000002)) ∨ ((1 ≤ n ∧ n ≤ 30) ∧ (¬ tI t 68 3 = 0) ∧ (CkP (pcA t 70) (mtA t 70) (tA t 91) (tI t 68 35) (2 * (min n (9999 - tA t 70 2))) z))))) := by
      intro n3
      induction n3 with
      | zero => intro M3 g k t11 ok11 fr11 wf11 i3_0 i3_1 i3_2 i3_3 i3_4 i3_5 i3_6 i3_7 i3_8 i3_9 i3_10 v3 f3; exfalso; omega
      | succ n3 ih3 =>
        intro M3 g k t11 ok11 fr11 wf11 i3_0 i3_1 i3_2 i3_3 i3_4 i3_5 i3_6 i3_7 i3_8 i3_9 i3_10 v3 f3
        obtain ⟨M3, rfl⟩ : ∃ m, M3 = m + 60 := ⟨M3 - 60, by omega⟩
        have e7 := i3_4
        have ew := i3_5
        have e91 := i3_6
        have br := i3_7
        refine w_step rfl ?_
        refine w_push kc_2 ?_
        refine w_iload rfl ?_
        refine w_mul ?_
        refine w_iload rfl ?_
        refine w_cge (by omega) (fun h12 => ?_) (fun h12 => ?_)
        · skip
          refine w_step rfl ?_
          refine w_aload rfl ?_
          refine w_getR (g_68_2 _) ?_
          refine w_aload rfl ?_
          refine w_getR (g_68_0 _) ?_
          refine w_callS2V rfl (c_X9_copyAll_71_69 ok11) ?_
          rintro t13 ⟨ok13, fq13, hp13_0⟩
          have fr13 := fr11.then fq13 (by simp)
          have pf : ∀ i : Nat, i < 1461 → tA t13 69 i = tA t 69 i := fun i hi => (hp13_0 i hi).trans (e7 i hi)
          have ew : tI t13 68 35 = 0 := (fq13.1 68 35 (by simp)).trans ew
          refine w_iload rfl ?_
          refine w_iload rfl ?_
          refine w_cne (by omega) (fun h14 => ?_) (fun h14 => ?_)
          · skip
            refine w_step rfl ?_
            refine w_push kc_1 ?_
            refine w_iload rfl ?_
            refine w_add ?_
            refine w_goto ?_
            refine w_step rfl ?_
            refine w_retI rfl ?_
            exact ⟨ok13, fr13, ew, (by first | exact pf | exact fun i _ => e6 69 i), (by first | (exact Or.inl ⟨by omega, by first | omega | (subst_vars; rfl)⟩) | (exact Or.inr (Or.inl ⟨by omega, by omega, by first | omega | (subst_vars; rfl)⟩)) | (exact Or.inr (Or.inr (⟨by omega, by omega, by rw [← ew8]; rw [← ew8] at i3_9 i3_10; first | exact ⟨g, ⟨by omega, by omega, i3_9, by omega⟩, by rw [if_pos ⟨by omega, by omega⟩]⟩ | exact ⟨g, ⟨by omega, by omega, i3_9, by omega⟩, by rw [if_neg (by omega)]⟩⟩))))⟩
          refine w_iload rfl ?_
          refine w_iload rfl ?_
          refine w_cne (by omega) (fun h15 => ?_) (fun h15 => ?_)
          · skip
            refine w_step rfl ?_
            refine w_push kc_1 ?_
            refine w_iload rfl ?_
            refine w_add ?_
            refine w_goto ?_
            refine w_step rfl ?_
            refine w_retI rfl ?_
            exact ⟨ok13, fr13, ew, (by first | exact pf | exact fun i _ => e6 69 i), (by first | (exact Or.inl ⟨by omega, by first | omega | (subst_vars; rfl)⟩) | (exact Or.inr (Or.inl ⟨by omega, by omega, by first | omega | (subst_vars; rfl)⟩)) | (exact Or.inr (Or.inr (⟨by omega, by omega, by rw [← ew8]; rw [← ew8] at i3_9 i3_10; first | exact ⟨g, ⟨by omega, by omega, i3_9, by omega⟩, by rw [if_pos ⟨by omega, by omega⟩]⟩ | exact ⟨g, ⟨by omega, by omega, i3_9, by omega⟩, by rw [if_neg (by omega)]⟩⟩))))⟩
          refine w_push kc_0 ?_
          refine w_goto ?_
          refine w_step rfl ?_
          refine w_retI rfl ?_
          exact ⟨ok13, fr13, ew, (by first | exact pf | exact fun i _ => e6 69 i), (by first | (exact Or.inl ⟨by omega, by first | omega | (subst_vars; rfl)⟩) | (exact Or.inr (Or.inl ⟨by omega, by omega, by first | omega | (subst_vars; rfl)⟩)) | (exact Or.inr (Or.inr (⟨by omega, by omega, by rw [← ew8]; rw [← ew8] at i3_9 i3_10; first | exact ⟨g, ⟨by omega, by omega, i3_9, by omega⟩, by rw [if_pos ⟨by omega, by omega⟩]⟩ | exact ⟨g, ⟨by omega, by omega, i3_9, by omega⟩, by rw [if_neg (by omega)]⟩⟩))))⟩
        refine w_iload rfl ?_
        refine w_push kc_2 ?_
        refine w_iload rfl ?_
        refine w_mul ?_
        refine w_cne (by omega) (fun h16 => ?_) (fun h16 => ?_)
        · skip
          refine w_step rfl ?_
          refine w_aload rfl ?_
          refine w_getR (g_68_2 _) ?_
          refine w_aload rfl ?_
          refine w_getR (g_68_0 _) ?_
          refine w_callS2V rfl (c_X9_copyAll_71_69 ok11) ?_
          rintro t17 ⟨ok17, fq17, hp17_0⟩
          have fr17 := fr11.then fq17 (by simp)
          have pf : ∀ i : Nat, i < 1461 → tA t17 69 i = tA t 69 i := fun i hi => (hp17_0 i hi).trans (e7 i hi)
          have ew : tI t17 68 35 = 0 := (fq17.1 68 35 (by simp)).trans ew
          refine w_iload rfl ?_
          refine w_iload rfl ?_
          refine w_cne (by omega) (fun h18 => ?_) (fun h18 => ?_)
          · skip
            refine w_step rfl ?_
            refine w_push kc_1 ?_
            refine w_iload rfl ?_
            refine w_add ?_
            refine w_goto ?_
            refine w_step rfl ?_
            refine w_retI rfl ?_
            exact ⟨ok17, fr17, ew, (by first | exact pf | exact fun i _ => e6 69 i), (by first | (exact Or.inl ⟨by omega, by first | omega | (subst_vars; rfl)⟩) | (exact Or.inr (Or.inl ⟨by omega, by omega, by first | omega | (subst_vars; rfl)⟩)) | (exact Or.inr (Or.inr (⟨by omega, by omega, by rw [← ew8]; rw [← ew8] at i3_9 i3_10; first | exact ⟨g, ⟨by omega, by omega, i3_9, by omega⟩, by rw [if_pos ⟨by omega, by omega⟩]⟩ | exact ⟨g, ⟨by omega, by omega, i3_9, by omega⟩, by rw [if_neg (by omega)]⟩⟩))))⟩
          refine w_iload rfl ?_
          refine w_iload rfl ?_
          refine w_cne (by omega) (fun h19 => ?_) (fun h19 => ?_)
          · skip
            refine w_step rfl ?_
            refine w_push kc_1 ?_
            refine w_iload rfl ?_
            refine w_add ?_
            refine w_goto ?_
            refine w_step rfl ?_
            refine w_retI rfl ?_
            exact ⟨ok17, fr17, ew, (by first | exact pf | exact fun i _ => e6 69 i), (by first | (exact Or.inl ⟨by omega, by first | omega | (subst_vars; rfl)⟩) | (exact Or.inr (Or.inl ⟨by omega, by omega, by first | omega | (subst_vars; rfl)⟩)) | (exact Or.inr (Or.inr (⟨by omega, by omega, by rw [← ew8]; rw [← ew8] at i3_9 i3_10; first | exact ⟨g, ⟨by omega, by omega, i3_9, by omega⟩, by rw [if_pos ⟨by omega, by omega⟩]⟩ | exact ⟨g, ⟨by omega, by omega, i3_9, by omega⟩, by rw [if_neg (by omega)]⟩⟩))))⟩
          refine w_push kc_0 ?_
          refine w_goto ?_
          refine w_step rfl ?_
          refine w_retI rfl ?_
          exact ⟨ok17, fr17, ew, (by first | exact pf | exact fun i _ => e6 69 i), (by first | (exact Or.inl ⟨by omega, by first | omega | (subst_vars; rfl)⟩) | (exact Or.inr (Or.inl ⟨by omega, by omega, by first | omega | (subst_vars; rfl)⟩)) | (exact Or.inr (Or.inr (⟨by omega, by omega, by rw [← ew8]; rw [← ew8] at i3_9 i3_10; first | exact ⟨g, ⟨by omega, by omega, i3_9, by omega⟩, by rw [if_pos ⟨by omega, by omega⟩]⟩ | exact ⟨g, ⟨by omega, by omega, i3_9, by omega⟩, by rw [if_neg (by omega)]⟩⟩))))⟩
        refine w_aload rfl ?_
        refine w_callV0V (oj_68 _).choose_spec rfl (e_X9_day ok11 wf11 br.2.2.2.2.2.2.2 (AW_no br.2.1)) ?_
        rintro t20 ⟨ok20, fq20, hp20_0, hp20_1, hp20_2, hp20_3⟩
        have fr20 := fr11.then fq20 (by simp)
        have wf20 := wf11.dq hp20_0
        have e7 : ∀ i : Nat, i < 1461 → tA t20 71 i = tA t 69 i := fun i hi => (fq20.2.1 71 (by simp) i).trans (e7 i hi)
        have ew : tI t20 68 35 = 0 := (fq20.1 68 35 (by simp)).trans ew
        have e91 : ∀ i, tA t20 91 i = tA t 91 i := fun i => (fq20.2.1 91 (by simp) i).trans (e91 i)
        have br2 : BRp t t20 70 (k + 1).toNat := by
          rw [show (k + 1).toNat = k.toNat + 1 by omega]
          exact bq_s br hp20_3 hp20_0 hp20_1
        have okd := ok20
        refine w_iload rfl ?_
        refine w_iload rfl ?_
        refine w_iload rfl ?_
        refine w_cge (by omega) (fun h21 => ?_) (fun h21 => ?_)
        · skip
          refine w_step rfl ?_
          refine w_push kc_0 ?_
          refine w_goto ?_
          refine w_step rfl ?_
          refine w_add ?_
          refine w_istore (lv' := [some (.ref 68), some (.int (jI n)), some (.int (jI z1)), some (.int (jI (2 * z10))), some (.int (jI (g + 0))), some (.int (jI k))]) rfl ?_
          refine w_iload rfl ?_
          refine w_iload rfl ?_
          refine w_push kc_2 ?_
          refine w_iload rfl ?_
          refine w_mul ?_
          refine w_push kc_1 ?_
          refine w_add ?_
          refine w_cne (by omega) (fun h22 => ?_) (fun h22 => ?_)
          · skip
            refine w_step rfl ?_
            refine w_push kc_0 ?_
            refine w_goto ?_
            refine w_step rfl ?_
            refine w_add ?_
            refine w_istore (lv' := [some (.ref 68), some (.int (jI n)), some (.int (jI z1)), some (.int (jI (2 * z10))), some (.int (jI ((g + 0) + 0))), some (.int (jI k))]) rfl ?_
            refine w_iinc (lv' := [some (.ref 68), some (.int (jI n)), some (.int (jI z1)), some (.int (jI (2 * z10))), some (.int (jI ((g + 0) + 0))), some (.int (jI (k + 1)))]) kc_1 rfl rfl ?_
            refine w_goto ?_
            exact ih3 _ ((g + 0) + 0) (k + 1) t20 ok20 fr20 wf20 (by omega) (by omega) (by omega) (by omega) e7 ew e91 br2 (by omega) (by first | exact ok_x (ok_x i3_9 ⟨by omega, by omega⟩) ⟨by omega, by omega⟩ | (simp only [Int.add_zero]; exact ok_x i3_9 ⟨by omega, by omega⟩) | (simp only [Int.add_zero]; exact i3_9) | omega) (by (try simp only [Int.add_zero]); omega) (by omega) (by omega)
          refine w_iload rfl ?_
          refine w_iload rfl ?_
          refine w_cge (by omega) (fun h23 => ?_) (fun h23 => ?_)
          · skip
            refine w_step rfl ?_
            refine w_push kc_0 ?_
            refine w_goto ?_
            refine w_step rfl ?_
            refine w_add ?_
            refine w_istore (lv' := [some (.ref 68), some (.int (jI n)), some (.int (jI z1)), some (.int (jI (2 * z10))), some (.int (jI ((g + 0) + 0))), some (.int (jI k))]) rfl ?_
            refine w_iinc (lv' := [some (.ref 68), some (.int (jI n)), some (.int (jI z1)), some (.int (jI (2 * z10))), some (.int (jI ((g + 0) + 0))), some (.int (jI (k + 1)))]) kc_1 rfl rfl ?_
            refine w_goto ?_
            exact ih3 _ ((g + 0) + 0) (k + 1) t20 ok20 fr20 wf20 (by omega) (by omega) (by omega) (by omega) e7 ew e91 br2 (by omega) (by first | exact ok_x (ok_x i3_9 ⟨by omega, by omega⟩) ⟨by omega, by omega⟩ | (simp only [Int.add_zero]; exact ok_x i3_9 ⟨by omega, by omega⟩) | (simp only [Int.add_zero]; exact i3_9) | omega) (by (try simp only [Int.add_zero]); omega) (by omega) (by omega)
          refine w_aload rfl ?_
          refine w_getR (g_68_34 _) ?_
          refine w_iload rfl ?_
          refine w_iald (i := ((g + 0)).toNat) (ai_91 _) (by omega) (by omega) (ae_91 _) ok20 (fun z24 hz24 hl24 hh24 => ?_)
          have e3 : z24 = tA t 91 ((g + 0)).toNat := by rw [hz24, e91]
          refine w_aload rfl ?_
          refine w_callV0I (oj_68 _).choose_spec rfl (e_X9_matches ok20 (AW_no br2.2.1)) ?_
          rintro z25 t25 ⟨rfl, hp25_0, hp25_1, hp25_2⟩
          have ed3 : z25 = dueF (pcA t 70) (mtA t 70) (g + 1) := by
            unfold dueF
            rw [if_neg (by omega), show ((g + 1) / 2 + 1).toNat = (k + 1).toNat by omega, hp25_2]
            exact bq_mt br2 hn70
          refine w_cne (by omega) (fun h26 => ?_) (fun h26 => ?_)
          · skip
            refine w_step rfl ?_
            refine w_push kc_0 ?_
            refine w_goto ?_
            refine w_step rfl ?_
            refine w_add ?_
            refine w_istore (lv' := [some (.ref 68), some (.int (jI n)), some (.int (jI z1)), some (.int (jI (2 * z10))), some (.int (jI ((g + 0) + 0))), some (.int (jI k))]) rfl ?_
            refine w_iinc (lv' := [some (.ref 68), some (.int (jI n)), some (.int (jI z1)), some (.int (jI (2 * z10))), some (.int (jI ((g + 0) + 0))), some (.int (jI (k + 1)))]) kc_1 rfl rfl ?_
            refine w_goto ?_
            exact ih3 _ ((g + 0) + 0) (k + 1) t20 ok20 fr20 wf20 (by omega) (by omega) (by omega) (by omega) e7 ew e91 br2 (by omega) (by first | exact ok_x (ok_x i3_9 ⟨by omega, by omega⟩) ⟨by omega, by omega⟩ | (simp only [Int.add_zero]; exact ok_x i3_9 ⟨by omega, by omega⟩) | (simp only [Int.add_zero]; exact i3_9) | omega) (by (try simp only [Int.add_zero]); omega) (by omega) (by omega)
          refine w_push kc_1 ?_
          refine w_goto ?_
          refine w_step rfl ?_
          refine w_add ?_
          refine w_istore (lv' := [some (.ref 68), some (.int (jI n)), some (.int (jI z1)), some (.int (jI (2 * z10))), some (.int (jI ((g + 0) + 1))), some (.int (jI k))]) rfl ?_
          refine w_iinc (lv' := [some (.ref 68), some (.int (jI n)), some (.int (jI z1)), some (.int (jI (2 * z10))), some (.int (jI ((g + 0) + 1))), some (.int (jI (k + 1)))]) kc_1 rfl rfl ?_
          refine w_goto ?_
          exact ih3 _ ((g + 0) + 1) (k + 1) t20 ok20 fr20 wf20 (by omega) (by omega) (by omega) (by omega) e7 ew e91 br2 (by omega) (by first | exact ok_x (ok_x i3_9 ⟨by omega, by omega⟩) ⟨by omega, by omega⟩ | (simp only [Int.add_zero]; exact ok_x i3_9 ⟨by omega, by omega⟩) | (simp only [Int.add_zero]; exact i3_9) | omega) (by (try simp only [Int.add_zero]); omega) (by omega) (by omega)
        refine w_aload rfl ?_
        refine w_getR (g_68_34 _) ?_
        refine w_iload rfl ?_
        refine w_iald (i := (g).toNat) (ai_91 _) (by omega) (by omega) (ae_91 _) ok20 (fun z27 hz27 hl27 hh27 => ?_)
        have e1 : z27 = tA t 91 g.toNat := by rw [hz27, e91]
        refine w_aload rfl ?_
        refine w_callV0I (oj_68 _).choose_spec rfl (e_X9_picture ok20 wf20 br2.2.2.2.2.2.2.2 (AW_no br2.2.1)) ?_
        rintro z28 t28 ⟨ok28, fq28, hp28_0, hp28_1, hp28_2⟩
        have fr28 := fr20.then fq28 (by simp)
        have wf28 := wf20.fr fq28 (by simp)
        have e7 : ∀ i : Nat, i < 1461 → tA t28 71 i = tA t 69 i := fun i hi => (fq28.2.1 71 (by simp) i).trans (e7 i hi)
        have ew : tI t28 68 35 = 0 := (fq28.1 68 35 (by simp)).trans ew
        have e91 : ∀ i, tA t28 91 i = tA t 91 i := fun i => (fq28.2.1 91 (by simp) i).trans (e91 i)
        have ed1 : z28 = dueF (pcA t 70) (mtA t 70) g := by
          unfold dueF
          rw [if_pos (by omega), show (g / 2 + 1).toNat = (k + 1).toNat by omega, hp28_2]
          exact bq_pc br2 okd (rt_u okd) hn70
        have br2 := bq_f br2 fq28 (by simp) (by simp)
        refine w_cne (by omega) (fun h29 => ?_) (fun h29 => ?_)
        · skip
          refine w_step rfl ?_
          refine w_push kc_0 ?_
          refine w_goto ?_
          refine w_step rfl ?_
          refine w_add ?_
          refine w_istore (lv' := [some (.ref 68), some (.int (jI n)), some (.int (jI z1)), some (.int (jI (2 * z10))), some (.int (jI (g + 0))), some (.int (jI k))]) rfl ?_
          refine w_iload rfl ?_
          refine w_iload rfl ?_
          refine w_push kc_2 ?_
          refine w_iload rfl ?_
          refine w_mul ?_
          refine w_push kc_1 ?_
          refine w_add ?_
          refine w_cne (by omega) (fun h30 => ?_) (fun h30 => ?_)
          · skip
            refine w_step rfl ?_
            refine w_push kc_0 ?_
            refine w_goto ?_
            refine w_step rfl ?_
            refine w_add ?_
            refine w_istore (lv' := [some (.ref 68), some (.int (jI n)), some (.int (jI z1)), some (.int (jI (2 * z10))), some (.int (jI ((g + 0) + 0))), some (.int (jI k))]) rfl ?_
            refine w_iinc (lv' := [some (.ref 68), some (.int (jI n)), some (.int (jI z1)), some (.int (jI (2 * z10))), some (.int (jI ((g + 0) + 0))), some (.int (jI (k + 1)))]) kc_1 rfl rfl ?_
            refine w_goto ?_
            exact ih3 _ ((g + 0) + 0) (k + 1) t28 ok28 fr28 wf28 (by omega) (by omega) (by omega) (by omega) e7 ew e91 br2 (by omega) (by first | exact ok_x (ok_x i3_9 ⟨by omega, by omega⟩) ⟨by omega, by omega⟩ | (simp only [Int.add_zero]; exact ok_x i3_9 ⟨by omega, by omega⟩) | (simp only [Int.add_zero]; exact i3_9) | omega) (by (try simp only [Int.add_zero]); omega) (by omega) (by omega)
          refine w_iload rfl ?_
          refine w_iload rfl ?_
          refine w_cge (by omega) (fun h31 => ?_) (fun h31 => ?_)
          · skip
            refine w_step rfl ?_
            refine w_push kc_0 ?_
            refine w_goto ?_
            refine w_step rfl ?_
            refine w_add ?_
            refine w_istore (lv' := [some (.ref 68), some (.int (jI n)), some (.int (jI z1)), some (.int (jI (2 * z10))), some (.int (jI ((g + 0) + 0))), some (.int (jI k))]) rfl ?_
            refine w_iinc (lv' := [some (.ref 68), some (.int (jI n)), some (.int (jI z1)), some (.int (jI (2 * z10))), some (.int (jI ((g + 0) + 0))), some (.int (jI (k + 1)))]) kc_1 rfl rfl ?_
            refine w_goto ?_
            exact ih3 _ ((g + 0) + 0) (k + 1) t28 ok28 fr28 wf28 (by omega) (by omega) (by omega) (by omega) e7 ew e91 br2 (by omega) (by first | exact ok_x (ok_x i3_9 ⟨by omega, by omega⟩) ⟨by omega, by omega⟩ | (simp only [Int.add_zero]; exact ok_x i3_9 ⟨by omega, by omega⟩) | (simp only [Int.add_zero]; exact i3_9) | omega) (by (try simp only [Int.add_zero]); omega) (by omega) (by omega)
          refine w_aload rfl ?_
          refine w_getR (g_68_34 _) ?_
          refine w_iload rfl ?_
          refine w_iald (i := ((g + 0)).toNat) (ai_91 _) (by omega) (by omega) (ae_91 _) ok28 (fun z32 hz32 hl32 hh32 => ?_)
          have e3 : z32 = tA t 91 ((g + 0)).toNat := by rw [hz32, e91]
          refine w_aload rfl ?_
          refine w_callV0I (oj_68 _).choose_spec rfl (e_X9_matches ok28 (AW_no br2.2.1)) ?_
          rintro z33 t33 ⟨rfl, hp33_0, hp33_1, hp33_2⟩
          have ed3 : z33 = dueF (pcA t 70) (mtA t 70) (g + 1) := by
            unfold dueF
            rw [if_neg (by omega), show ((g + 1) / 2 + 1).toNat = (k + 1).toNat by omega, hp33_2]
            exact bq_mt br2 hn70
          refine w_cne (by omega) (fun h34 => ?_) (fun h34 => ?_)
          · skip
            refine w_step rfl ?_
            refine w_push kc_0 ?_
            refine w_goto ?_
            refine w_step rfl ?_
            refine w_add ?_
            refine w_istore (lv' := [some (.ref 68), some (.int (jI n)), some (.int (jI z1)), some (.int (jI (2 * z10))), some (.int (jI ((g + 0) + 0))), some (.int (jI k))]) rfl ?_
            refine w_iinc (lv' := [some (.ref 68), some (.int (jI n)), some (.int (jI z1)), some (.int (jI (2 * z10))), some (.int (jI ((g + 0) + 0))), some (.int (jI (k + 1)))]) kc_1 rfl rfl ?_
            refine w_goto ?_
            exact ih3 _ ((g + 0) + 0) (k + 1) t28 ok28 fr28 wf28 (by omega) (by omega) (by omega) (by omega) e7 ew e91 br2 (by omega) (by first | exact ok_x (ok_x i3_9 ⟨by omega, by omega⟩) ⟨by omega, by omega⟩ | (simp only [Int.add_zero]; exact ok_x i3_9 ⟨by omega, by omega⟩) | (simp only [Int.add_zero]; exact i3_9) | omega) (by (try simp only [Int.add_zero]); omega) (by omega) (by omega)
          refine w_push kc_1 ?_
          refine w_goto ?_
          refine w_step rfl ?_
          refine w_add ?_
          refine w_istore (lv' := [some (.ref 68), some (.int (jI n)), some (.int (jI z1)), some (.int (jI (2 * z10))), some (.int (jI ((g + 0) + 1))), some (.int (jI k))]) rfl ?_
          refine w_iinc (lv' := [some (.ref 68), some (.int (jI n)), some (.int (jI z1)), some (.int (jI (2 * z10))), some (.int (jI ((g + 0) + 1))), some (.int (jI (k + 1)))]) kc_1 rfl rfl ?_
          refine w_goto ?_
          exact ih3 _ ((g + 0) + 1) (k + 1) t28 ok28 fr28 wf28 (by omega) (by omega) (by omega) (by omega) e7 ew e91 br2 (by omega) (by first | exact ok_x (ok_x i3_9 ⟨by omega, by omega⟩) ⟨by omega, by omega⟩ | (simp only [Int.add_zero]; exact ok_x i3_9 ⟨by omega, by omega⟩) | (simp only [Int.add_zero]; exact i3_9) | omega) (by (try simp only [Int.add_zero]); omega) (by omega) (by omega)
        refine w_push kc_1 ?_
        refine w_goto ?_
        refine w_step rfl ?_
        refine w_add ?_
        refine w_istore (lv' := [some (.ref 68), some (.int (jI n)), some (.int (jI z1)), some (.int (jI (2 * z10))), some (.int (jI (g + 1))), some (.int (jI k))]) rfl ?_
        refine w_iload rfl ?_
        refine w_iload rfl ?_
        refine w_push kc_2 ?_
        refine w_iload rfl ?_
        refine w_mul ?_
        refine w_push kc_1 ?_
        refine w_add ?_
        refine w_cne (by omega) (fun h35 => ?_) (fun h35 => ?_)
        · skip
          refine w_step rfl ?_
          refine w_push kc_0 ?_
          refine w_goto ?_
          refine w_step rfl ?_
          refine w_add ?_
          refine w_istore (lv' := [some (.ref 68), some (.int (jI n)), some (.int (jI z1)), some (.int (jI (2 * z10))), some (.int (jI ((g + 1) + 0))), some (.int (jI k))]) rfl ?_
          refine w_iinc (lv' := [some (.ref 68), some (.int (jI n)), some (.int (jI z1)), some (.int (jI (2 * z10))), some (.int (jI ((g + 1) + 0))), some (.int (jI (k + 1)))]) kc_1 rfl rfl ?_
          refine w_goto ?_
          exact ih3 _ ((g + 1) + 0) (k + 1) t28 ok28 fr28 wf28 (by omega) (by omega) (by omega) (by omega) e7 ew e91 br2 (by omega) (by first | exact ok_x (ok_x i3_9 ⟨by omega, by omega⟩) ⟨by omega, by omega⟩ | (simp only [Int.add_zero]; exact ok_x i3_9 ⟨by omega, by omega⟩) | (simp only [Int.add_zero]; exact i3_9) | omega) (by (try simp only [Int.add_zero]); omega) (by omega) (by omega)
        refine w_iload rfl ?_
        refine w_iload rfl ?_
        refine w_cge (by omega) (fun h36 => ?_) (fun h36 => ?_)
        · skip
          refine w_step rfl ?_
          refine w_push kc_0 ?_
          refine w_goto ?_
          refine w_step rfl ?_
          refine w_add ?_
          refine w_istore (lv' := [some (.ref 68), some (.int (jI n)), some (.int (jI z1)), some (.int (jI (2 * z10))), some (.int (jI ((g + 1) + 0))), some (.int (jI k))]) rfl ?_
          refine w_iinc (lv' := [some (.ref 68), some (.int (jI n)), some (.int (jI z1)), some (.int (jI (2 * z10))), some (.int (jI ((g + 1) + 0))), some (.int (jI (k + 1)))]) kc_1 rfl rfl ?_
          refine w_goto ?_
          exact ih3 _ ((g + 1) + 0) (k + 1) t28 ok28 fr28 wf28 (by omega) (by omega) (by omega) (by omega) e7 ew e91 br2 (by omega) (by first | exact ok_x (ok_x i3_9 ⟨by omega, by omega⟩) ⟨by omega, by omega⟩ | (simp only [Int.add_zero]; exact ok_x i3_9 ⟨by omega, by omega⟩) | (simp only [Int.add_zero]; exact i3_9) | omega) (by (try simp only [Int.add_zero]); omega) (by omega) (by omega)
        refine w_aload rfl ?_
        refine w_getR (g_68_34 _) ?_
        refine w_iload rfl ?_
        refine w_iald (i := ((g + 1)).toNat) (ai_91 _) (by omega) (by omega) (ae_91 _) ok28 (fun z37 hz37 hl37 hh37 => ?_)
        have e3 : z37 = tA t 91 ((g + 1)).toNat := by rw [hz37, e91]
        refine w_aload rfl ?_
        refine w_callV0I (oj_68 _).choose_spec rfl (e_X9_matches ok28 (AW_no br2.2.1)) ?_
        rintro z38 t38 ⟨rfl, hp38_0, hp38_1, hp38_2⟩
        have ed3 : z38 = dueF (pcA t 70) (mtA t 70) (g + 1) := by
          unfold dueF
          rw [if_neg (by omega), show ((g + 1) / 2 + 1).toNat = (k + 1).toNat by omega, hp38_2]
          exact bq_mt br2 hn70
        refine w_cne (by omega) (fun h39 => ?_) (fun h39 => ?_)
        · skip
          refine w_step rfl ?_
          refine w_push kc_0 ?_
          refine w_goto ?_
          refine w_step rfl ?_
          refine w_add ?_
          refine w_istore (lv' := [some (.ref 68), some (.int (jI n)), some (.int (jI z1)), some (.int (jI (2 * z10))), some (.int (jI ((g + 1) + 0))), some (.int (jI k))]) rfl ?_
          refine w_iinc (lv' := [some (.ref 68), some (.int (jI n)), some (.int (jI z1)), some (.int (jI (2 * z10))), some (.int (jI ((g + 1) + 0))), some (.int (jI (k + 1)))]) kc_1 rfl rfl ?_
          refine w_goto ?_
          exact ih3 _ ((g + 1) + 0) (k + 1) t28 ok28 fr28 wf28 (by omega) (by omega) (by omega) (by omega) e7 ew e91 br2 (by omega) (by first | exact ok_x (ok_x i3_9 ⟨by omega, by omega⟩) ⟨by omega, by omega⟩ | (simp only [Int.add_zero]; exact ok_x i3_9 ⟨by omega, by omega⟩) | (simp only [Int.add_zero]; exact i3_9) | omega) (by (try simp only [Int.add_zero]); omega) (by omega) (by omega)
        refine w_push kc_1 ?_
        refine w_goto ?_
        refine w_step rfl ?_
        refine w_add ?_
        refine w_istore (lv' := [some (.ref 68), some (.int (jI n)), some (.int (jI z1)), some (.int (jI (2 * z10))), some (.int (jI ((g + 1) + 1))), some (.int (jI k))]) rfl ?_
        refine w_iinc (lv' := [some (.ref 68), some (.int (jI n)), some (.int (jI z1)), some (.int (jI (2 * z10))), some (.int (jI ((g + 1) + 1))), some (.int (jI (k + 1)))]) kc_1 rfl rfl ?_
        refine w_goto ?_
        exact ih3 _ ((g + 1) + 1) (k + 1) t28 ok28 fr28 wf28 (by omega) (by omega) (by omega) (by omega) e7 ew e91 br2 (by omega) (by first | exact ok_x (ok_x i3_9 ⟨by omega, by omega⟩) ⟨by omega, by omega⟩ | (simp only [Int.add_zero]; exact ok_x i3_9 ⟨by omega, by omega⟩) | (simp only [Int.add_zero]; exact i3_9) | omega) (by (try simp only [Int.add_zero]); omega) (by omega) (by omega)
    exact key3 32 _ 0 0 t7 ok7 fr7 wf7 (by omega) (by omega) (by omega) (by omega) e7 ew e91 br (by omega) (fun i h1 h2 => by omega) (Or.inl rfl) (by omega) (by omega)
  refine w_push kc_m1000000002 ?_
  refine w_retI rfl ?_
  exact ⟨ok2, fr2, ew, (by first | exact pf | exact fun i _ => e6 69 i), (by first | (exact Or.inl ⟨by omega, by first | omega | (subst_vars; rfl)⟩) | (exact Or.inr (Or.inl ⟨by omega, by omega, by first | omega | (subst_vars; rfl)⟩)) | (exact Or.inr (Or.inr (⟨by omega, by omega, by rw [← ew8]; rw [← ew8] at i3_9 i3_10; first | exact ⟨g, ⟨by omega, by omega, i3_9, by omega⟩, by rw [if_pos ⟨by omega, by omega⟩]⟩ | exact ⟨g, ⟨by omega, by omega, i3_9, by omega⟩, by rw [if_neg (by omega)]⟩⟩))))⟩
end
