set_option maxRecDepth 100000 in
set_option maxHeartbeats 4000000 in
theorem e_X8_lost {d : Nat} {t : TS} {n w : Int}  (ok : OK t) (q0 : HCt t 1) (q1 : -2147483648 ≤ n) (q2 : n ≤ 2147483647) (q3 : -2147483648 ≤ w) (q4 : w ≤ 2147483647) : CI (EX FU (d + 7)) 96 [.ref 0, .int (jI n), .int (jI w)] (mk t) (fun z t' => OK t' ∧ Fr [(24, 10), (24, 11), (24, 12), (24, 13), (24, 14), (25, 100), (26, 100), (27, 100), (28, 100), (29, 100), (30, 100), (31, 100), (32, 100), (34, 100), (33, 101)] t t' ∧ (((¬ (0 ≤ n ∧ n ≤ 60 ∧ 0 ≤ w ∧ w ≤ 1)) ∧ z = (-1000000001)) ∨ ((0 ≤ n ∧ n ≤ 60 ∧ 0 ≤ w ∧ w ≤ 1) ∧ z = bfA (bfF (fun s => picG (tI t 1 10).toNat (OC t 1) (dysF (tI t 1 10).toNat (OC t 1) (tI t 1 12) (tI t 1 14) n.toNat (upF (tA t 5) s 13, tA t 6))) (tI t 1 10).toNat) w))) := by
  refine CI_ent (d := d + 6) (Bk := bX8_lost) (nL := 7) rfl rfl rfl (Nat.le_of_ble_eq_true rfl) ?_
  show Rn _ 1000000 0 [some (.ref 0), some (.int (jI n)), some (.int (jI w)), none, none, none, none] [] _ _
  have fr : Fr [(24, 10), (24, 11), (24, 12), (24, 13), (24, 14), (25, 100), (26, 100), (27, 100), (28, 100), (29, 100), (30, 100), (31, 100), (32, 100), (34, 100), (33, 101)] t t := Fr.rf _ _
  have hn0 := (ok.f fe_1_10).1
  have hn1 := (ok.f fe_1_10).2
  refine w_step rfl ?_
  refine w_iload rfl ?_
  refine w_push kc_0 ?_
  refine w_push kc_60 ?_
  refine w_callS3I rfl (c_X8_within ok (by omega) (by omega) (by omega) (by omega) (by omega) (by omega)) ?_
  rintro z1 t1 ⟨rfl, hp1_0⟩
  rcases hp1_0 with ⟨rfl, hp1_0⟩ | ⟨rfl, hp1_0⟩
  · skip
    refine w_ieq (by omega) (fun _ => ?_) (fun h => absurd (by omega) h)
    refine w_step rfl ?_
    refine w_push kc_m1000000001 ?_
    refine w_retI rfl ?_
    exact ⟨ok, fr, (by first | (exact Or.inl ⟨by omega, by first | omega | (subst_vars; rfl)⟩) | (exact Or.inr (⟨by omega, by rw [show s.toNat = (tI t 1 10).toNat by omega] at i3_7; exact bfC_a i3_7 (by omega)⟩)))⟩
  refine w_ieq (by omega) (fun h => absurd h (by omega)) (fun _ => ?_)
  refine w_iload rfl ?_
  refine w_push kc_0 ?_
  refine w_push kc_1 ?_
  refine w_callS3I rfl (c_X8_within ok (by omega) (by omega) (by omega) (by omega) (by omega) (by omega)) ?_
  rintro z2 t2 ⟨rfl, hp2_0⟩
  rcases hp2_0 with ⟨rfl, hp2_0⟩ | ⟨rfl, hp2_0⟩
  · skip
    refine w_ine (by omega) (fun h => absurd h (by omega)) (fun _ => ?_)
    refine w_goto ?_
    refine w_step rfl ?_
    refine w_push kc_m1000000001 ?_
    refine w_retI rfl ?_
    exact ⟨ok, fr, (by first | (exact Or.inl ⟨by omega, by first | omega | (subst_vars; rfl)⟩) | (exact Or.inr (⟨by omega, by rw [show s.toNat = (tI t 1 10).toNat by omega] at i3_7; exact bfC_a i3_7 (by omega)⟩)))⟩
  refine w_ine (by omega) (fun _ => ?_) (fun h => absurd (by omega) h)
  refine w_step rfl ?_
  refine w_push kc_m1000000005 ?_
  refine w_istore (lv' := [some (.ref 0), some (.int (jI n)), some (.int (jI w)), some (.int (jI (-1000000005))), none, none, none]) rfl ?_
  refine w_push kc_m1000000005 ?_
  refine w_istore (lv' := [some (.ref 0), some (.int (jI n)), some (.int (jI w)), some (.int (jI (-1000000005))), some (.int (jI (-1000000005))), none, none]) rfl ?_
  refine w_push kc_0 ?_
  refine w_istore (lv' := [some (.ref 0), some (.int (jI n)), some (.int (jI w)), some (.int (jI (-1000000005))), some (.int (jI (-1000000005))), some (.int (jI 0)), none]) rfl ?_
  refine w_goto ?_
  have key3 : ∀ (n3 M3 : Nat) (least : Int) (which : Int) (s : Int) (o6 : Option Int) (t3 : TS), OK t3 → Fr [(24, 10), (24, 11), (24, 12), (24, 13), (24, 14), (25, 100), (26, 100), (27, 100), (28, 100), (29, 100), (30, 100), (31, 100), (32, 100), (34, 100), (33, 101)] t t3 → (-2147483648 ≤ least) → (least ≤ 2147483647) → (-2147483648 ≤ which) → (which ≤ 2147483647) → (0 ≤ s) → (s ≤ 12) → (s ≤ tI t 1 10) → (bfC (fun s => picG (tI t 1 10).toNat (OC t 1) (dysF (tI t 1 10).toNat (OC t 1) (tI t 1 12) (tI t 1 14) n.toNat (upF (tA t 5) s 13, tA t 6))) s.toNat least which) → 12 - s < (n3 : Int) → 60 * n3 + (1000) ≤ M3 → Rn (bX8_lost (EX FU (d + 6))) M3 3 [some (.ref 0), some (.int (jI n)), some (.int (jI w)), some (.int (jI least)), some (.int (jI which)), some (.int (jI s)), dv o6] [] (mk t3) (PI (fun z t' => OK t' ∧ Fr [(24, 10), (24, 11), (24, 12), (24, 13), (24, 14), (25, 100), (26, 100), (27, 100), (28, 100), (29, 100), (30, 100), (31, 100), (32, 100), (34, 100), (33, 101)] t t' ∧ (((¬ (0 ≤ n ∧ n ≤ 60 ∧ 0 ≤ w ∧ w ≤ 1)) ∧ z = (-1000000001)) ∨ ((0 ≤ n ∧ n ≤ 60 ∧ 0 ≤ w ∧ w ≤ 1) ∧ z = bfA (bfF (fun s => picG (tI t 1 10).toNat (OC t 1) (dysF (tI t 1 10).toNat (OC t 1) (tI t 1 12) (tI t 1 14) n.toNat (upF (tA t 5) s 13, tA t 6))) (tI t 1 10).toNat) w)))) := by
    intro n3
    induction n3 with
    | zero => intro M3 least which s o6 t3 ok3 fr3 i3_0 i3_1 i3_2 i3_3 i3_4 i3_5 i3_6 i3_7 v3 f3; exfalso; omega
    | succ n3 ih3 =>
      intro M3 least which s o6 t3 ok3 fr3 i3_0 i3_1 i3_2 i3_3 i3_4 i3_5 i3_6 i3_7 v3 f3
      obtain ⟨M3, rfl⟩ : ∃ m, M3 = m + 60 := ⟨M3 - 60, by omega⟩
      have frc := fr3
      have e10 : tI t3 1 10 = tI t 1 10 := fr3.1 1 10 (by simp)
      refine w_step rfl ?_
      refine w_iload rfl ?_
      refine w_aload rfl ?_
      refine w_getR (g_0_0 _) ?_
      refine w_getI (g_1_10 _) fe_1_10 ok3 (fun z4 hz4 hl4 hh4 => ?_)
      refine w_cge (by omega) (fun h5 => ?_) (fun h5 => ?_)
      · skip
        refine w_step rfl ?_
        refine w_iload rfl ?_
        refine w_ine (by omega) (fun h6 => ?_) (fun h6 => ?_)
        · skip
          refine w_step rfl ?_
          refine w_iload rfl ?_
          refine w_goto ?_
          refine w_step rfl ?_
          refine w_retI rfl ?_
          exact ⟨ok3, fr3, (by first | (exact Or.inl ⟨by omega, by first | omega | (subst_vars; rfl)⟩) | (exact Or.inr (⟨by omega, by rw [show s.toNat = (tI t 1 10).toNat by omega] at i3_7; exact bfC_a i3_7 (by omega)⟩)))⟩
        refine w_iload rfl ?_
        refine w_goto ?_
        refine w_step rfl ?_
        refine w_retI rfl ?_
        exact ⟨ok3, fr3, (by first | (exact Or.inl ⟨by omega, by first | omega | (subst_vars; rfl)⟩) | (exact Or.inr (⟨by omega, by rw [show s.toNat = (tI t 1 10).toNat by omega] at i3_7; exact bfC_a i3_7 (by omega)⟩)))⟩
      refine w_aload rfl ?_
      refine w_getR (g_0_2 _) ?_
      refine w_aload rfl ?_
      refine w_getR (g_0_0 _) ?_
      refine w_iload rfl ?_
      refine w_iload rfl ?_
      refine w_callV3I (oj_23 _).choose_spec rfl (e_X7_pictureWithout ok3 (lo_h q0 frc (by simp) (by simp) (by simp)) (by omega) (by omega) (by omega) (by omega) (by omega)) ?_
      rintro z7 t7 ⟨ok7, fq7, hp7_0, hp7_1, hp7_2⟩
      have fr7 := fr3.then fq7 (by simp)
      have emq : z7 = (fun s => picG (tI t 1 10).toNat (OC t 1) (dysF (tI t 1 10).toNat (OC t 1) (tI t 1 12) (tI t 1 14) n.toNat (upF (tA t 5) s 13, tA t 6))) s.toNat := by rw [hp7_2]; exact lo_c frc (by simp) (by simp) (by simp) (by simp) (by simp) (by simp) (by simp)
      refine w_istore (lv' := [some (.ref 0), some (.int (jI n)), some (.int (jI w)), some (.int (jI least)), some (.int (jI which)), some (.int (jI s)), some (.int (jI z7))]) rfl ?_
      refine w_iload rfl ?_
      refine w_push kc_m1000000005 ?_
      refine w_ceq (by omega) (fun h8 => ?_) (fun h8 => ?_)
      · skip
        refine w_step rfl ?_
        refine w_iload rfl ?_
        refine w_istore (lv' := [some (.ref 0), some (.int (jI n)), some (.int (jI w)), some (.int (jI z7)), some (.int (jI which)), some (.int (jI s)), some (.int (jI z7))]) rfl ?_
        refine w_iload rfl ?_
        refine w_istore (lv' := [some (.ref 0), some (.int (jI n)), some (.int (jI w)), some (.int (jI z7)), some (.int (jI s)), some (.int (jI s)), some (.int (jI z7))]) rfl ?_
        refine w_goto ?_
        refine w_step rfl ?_
        refine w_iinc (lv' := [some (.ref 0), some (.int (jI n)), some (.int (jI w)), some (.int (jI z7)), some (.int (jI s)), some (.int (jI (s + 1))), some (.int (jI z7))]) kc_1 rfl rfl ?_
        refine w_goto ?_
        exact ih3 _ z7 s (s + 1) (some z7) t7 ok7 fr7 (by omega) (by omega) (by omega) (by omega) (by omega) (by omega) (by omega) (by first | exact i3_7.y (by omega) emq (by omega) | exact i3_7.n (by omega) emq (by omega) | omega) (by omega) (by omega)
      refine w_iload rfl ?_
      refine w_iload rfl ?_
      refine w_cge (by omega) (fun h9 => ?_) (fun h9 => ?_)
      · skip
        refine w_step rfl ?_
        refine w_iinc (lv' := [some (.ref 0), some (.int (jI n)), some (.int (jI w)), some (.int (jI least)), some (.int (jI which)), some (.int (jI (s + 1))), some (.int (jI z7))]) kc_1 rfl rfl ?_
        refine w_goto ?_
        exact ih3 _ least which (s + 1) (some z7) t7 ok7 fr7 (by omega) (by omega) (by omega) (by omega) (by omega) (by omega) (by omega) (by first | exact i3_7.y (by omega) emq (by omega) | exact i3_7.n (by omega) emq (by omega) | omega) (by omega) (by omega)
      refine w_goto ?_
      refine w_step rfl ?_
      refine w_iload rfl ?_
      refine w_istore (lv' := [some (.ref 0), some (.int (jI n)), some (.int (jI w)), some (.int (jI z7)), some (.int (jI which)), some (.int (jI s)), some (.int (jI z7))]) rfl ?_
      refine w_iload rfl ?_
      refine w_istore (lv' := [some (.ref 0), some (.int (jI n)), some (.int (jI w)), some (.int (jI z7)), some (.int (jI s)), some (.int (jI s)), some (.int (jI z7))]) rfl ?_
      refine w_goto ?_
      refine w_step rfl ?_
      refine w_iinc (lv' := [some (.ref 0), some (.int (jI n)), some (.int (jI w)), some (.int (jI z7)), some (.int (jI s)), some (.int (jI (s + 1))), some (.int (jI z7))]) kc_1 rfl rfl ?_
      refine w_goto ?_
      exact ih3 _ z7 s (s + 1) (some z7) t7 ok7 fr7 (by omega) (by omega) (by omega) (by omega) (by omega) (by omega) (by omega) (by first | exact i3_7.y (by omega) emq (by omega) | exact i3_7.n (by omega) emq (by omega) | omega) (by omega) (by omega)
  exact key3 13 _ (-1000000005) (-1000000005) 0 none t ok fr (by omega) (by omega) (by omega) (by omega) (by omega) (by omega) (by omega) (Or.inl ⟨rfl, rfl, rfl⟩) (by omega) (by omega)
set_option maxRecDepth 100000 in
set_option maxHeartbeats 4000000 in
theorem e_X8_fee {d : Nat} {t : TS}  (ok : OK t) (q0 : GD t) (q1 : HCt t 1) : CI (EX FU (d + 4)) 98 [.ref 0] (mk t) (fun z t' => OK t' ∧ Fr [] t t' ∧ (z = exF t (lwF t 1 1) (pcX t 1 0) (pcX t 1 0) (mtX t 1 0) 0)) := by
  refine CI_ent (d := d + 3) (Bk := bX8_fee) (nL := 3) rfl rfl rfl (Nat.le_of_ble_eq_true rfl) ?_
  show Rn _ 1000000 0 [some (.ref 0), none, none] [] _ _
  have fr : Fr [] t t := Fr.rf _ _
  have hn0 := (ok.f fe_1_10).1
  have hn1 := (ok.f fe_1_10).2
  have hu6 : ∀ s, 0 ≤ tA t 6 s ∧ tA t 6 s ≤ 1 := fun s => ok.a (ae_6 s)
  refine w_step rfl ?_
  refine w_aload rfl ?_
  refine w_getR (g_0_0 _) ?_
  refine w_callV0I (oj_1 _).choose_spec rfl (e_X4_picture isT1 ok) ?_
  rintro z1 t1 ⟨rfl, hp1_0, hp1_1, hp1_2⟩
  have epc : z1 = pcX t 1 0 := by rw [hp1_2]; exact picC q1 (OC t 1) (fun _ _ _ => rfl) hu6
  refine w_istore (lv' := [some (.ref 0), some (.int (jI z1)), none]) rfl ?_
  refine w_aload rfl ?_
  refine w_getR (g_0_0 _) ?_
  refine w_push kc_1 ?_
  refine w_callV1R (oj_1 _).choose_spec rfl (e_X4_law isT1 ok (by omega) (by omega)) ?_ ?_
  · rintro t2 ⟨rfl, hp2_0, hp2_1⟩
    have elw := hp2_1
    refine w_astoreN (lv' := [some (.ref 0), some (.int (jI z1)), some (.null)]) rfl ?_
    refine w_aloadN rfl ?_
    refine w_ifnonnullN ?_
    refine w_iload rfl ?_
    refine w_goto ?_
    refine w_step rfl ?_
    refine w_retI rfl ?_
    exact ⟨ok, fr, (by first | (rw [hp99qq_0, epc, emt, ← exF_j t _ (pcX t 1 0)]; exact congrArg (fun o => exF t o (pcX t 1 0) (pcX t 1 0) (mtX t 1 0) 0) elw) | (rw [epc]; exact congrArg (fun o => exF t o (pcX t 1 0) (pcX t 1 0) (mtX t 1 0) 0) elw))⟩
  rintro r2 t2 ⟨rfl, hp2_0, hp2_1⟩
  obtain ⟨j2, hj2, rfl⟩ := hp2_0 _ rfl
  have elw := hp2_1
  refine w_astore (lv' := [some (.ref 0), some (.int (jI z1)), some (.ref (92 + 4 * j2))]) rfl ?_
  refine w_aload rfl ?_
  refine w_ifnonnullR ?_
  refine w_step rfl ?_
  refine w_aload rfl ?_
  refine w_iload rfl ?_
  refine w_aload rfl ?_
  refine w_getR (g_0_0 _) ?_
  refine w_callV0I (oj_1 _).choose_spec rfl (e_X4_matches isT1 ok) ?_
  rintro z3 t3 ⟨rfl, hp3_0, hp3_1, hp3_2⟩
  have emt : z3 = mtX t 1 0 := by rw [hp3_2]; exact matC q1
  refine w_push kc_0 ?_
  refine w_callV3I (ojX (by have hl := fr.len; omega)).choose_spec rfl (e_X6_gives (by have hl := fr.len; omega) ok (GD.fr q0 fr) (by omega) (by omega) (by omega) (by omega) (by omega) (by omega)) ?_
  rintro z4 t4 ⟨ok4, fq4, hp4_0, hp4_1, hp4_2⟩
  have fr4 := fr.then fq4 (by simp)
  refine w_goto ?_
  refine w_step rfl ?_
  refine w_retI rfl ?_
  exact ⟨ok4, fr4, (by first | (rw [hp4_0, epc, emt, ← exF_j t _ (pcX t 1 0)]; exact congrArg (fun o => exF t o (pcX t 1 0) (pcX t 1 0) (mtX t 1 0) 0) elw) | (rw [epc]; exact congrArg (fun o => exF t o (pcX t 1 0) (pcX t 1 0) (mtX t 1 0) 0) elw))⟩
set_option maxRecDepth 100000 in
set_option maxHeartbeats 4000000 in
theorem e_X8_fine {d : Nat} {t : TS} {s : Int}  (ok : OK t) (q0 : GD t) (q1 : -2147483648 ≤ s) (q2 : s ≤ 2147483647) : CI (EX FU (d + 4)) 99 [.ref 0, .int (jI s)] (mk t) (fun z t' => OK t' ∧ Fr [] t t' ∧ (((¬ (0 ≤ s ∧ s ≤ tI t 1 10 - 1)) ∧ z = (-1000000001)) ∨ ((0 ≤ s ∧ s ≤ tI t 1 10 - 1) ∧ z = exF t (lwF t 1 2) (tA t 3 s.toNat) (tA t 3 s.toNat) (tA t 4 s.toNat) (tA t 6 s.toNat)))) := by
  refine CI_ent (d := d + 3) (Bk := bX8_fine) (nL := 3) rfl rfl rfl (Nat.le_of_ble_eq_true rfl) ?_
  show Rn _ 1000000 0 [some (.ref 0), some (.int (jI s)), none] [] _ _
  have fr : Fr [] t t := Fr.rf _ _
  have hn0 := (ok.f fe_1_10).1
  have hn1 := (ok.f fe_1_10).2
  refine w_step rfl ?_
  refine w_aload rfl ?_
  refine w_iload rfl ?_
  refine w_callV1I (oj_0 _).choose_spec rfl (c_X8_isStone ok (by omega) (by omega)) ?_
  rintro z1 t1 ⟨rfl, hp1_0⟩
  rcases hp1_0 with ⟨rfl, hp1_0⟩ | ⟨rfl, hp1_0⟩
  · skip
    refine w_ine (by omega) (fun h => absurd h (by omega)) (fun _ => ?_)
    refine w_push kc_m1000000001 ?_
    refine w_retI rfl ?_
    exact ⟨ok, fr, (by first | (exact Or.inl ⟨by omega, by first | omega | (subst_vars; rfl)⟩) | (exact Or.inr (⟨by omega, by first | (rw [hp99qq_0, hz99qq, hz99qq, hz99qq, ← exF_j t _ (tA t 3 s.toNat)]; exact congrArg (fun o => exF t o (tA t 3 s.toNat) (tA t 3 s.toNat) (tA t 4 s.toNat) (tA t 6 s.toNat)) elw) | exact hz99qq.trans (congrArg (fun o => exF t o (tA t 3 s.toNat) (tA t 3 s.toNat) (tA t 4 s.toNat) (tA t 6 s.toNat)) elw)⟩)))⟩
  refine w_ine (by omega) (fun _ => ?_) (fun h => absurd (by omega) h)
  refine w_step rfl ?_
  refine w_aload rfl ?_
  refine w_getR (g_0_0 _) ?_
  refine w_push kc_2 ?_
  refine w_callV1R (oj_1 _).choose_spec rfl (e_X4_law isT1 ok (by omega) (by omega)) ?_ ?_
  · rintro t2 ⟨rfl, hp2_0, hp2_1⟩
    have elw := hp2_1
    refine w_astoreN (lv' := [some (.ref 0), some (.int (jI s)), some (.null)]) rfl ?_
    refine w_aloadN rfl ?_
    refine w_ifnonnullN ?_
    refine w_aload rfl ?_
    refine w_getR (g_0_0 _) ?_
    refine w_getR (g_1_1 _) ?_
    refine w_iload rfl ?_
    refine w_iald (i := (s).toNat) (ai_3 _) (by omega) (by omega) (ae_3 _) ok (fun z3 hz3 hl3 hh3 => ?_)
    refine w_goto ?_
    refine w_step rfl ?_
    refine w_retI rfl ?_
    exact ⟨ok, fr, (by first | (exact Or.inl ⟨by omega, by first | omega | (subst_vars; rfl)⟩) | (exact Or.inr (⟨by omega, by first | (rw [hp99qq_0, hz99qq, hz99qq, hz99qq, ← exF_j t _ (tA t 3 s.toNat)]; exact congrArg (fun o => exF t o (tA t 3 s.toNat) (tA t 3 s.toNat) (tA t 4 s.toNat) (tA t 6 s.toNat)) elw) | exact hz3.trans (congrArg (fun o => exF t o (tA t 3 s.toNat) (tA t 3 s.toNat) (tA t 4 s.toNat) (tA t 6 s.toNat)) elw)⟩)))⟩
  rintro r2 t2 ⟨rfl, hp2_0, hp2_1⟩
  obtain ⟨j2, hj2, rfl⟩ := hp2_0 _ rfl
  have elw := hp2_1
  refine w_astore (lv' := [some (.ref 0), some (.int (jI s)), some (.ref (92 + 4 * j2))]) rfl ?_
  refine w_aload rfl ?_
  refine w_ifnonnullR ?_
  refine w_step rfl ?_
  refine w_aload rfl ?_
  refine w_aload rfl ?_
  refine w_getR (g_0_0 _) ?_
  refine w_getR (g_1_1 _) ?_
  refine w_iload rfl ?_
  refine w_iald (i := (s).toNat) (ai_3 _) (by omega) (by omega) (ae_3 _) ok (fun z4 hz4 hl4 hh4 => ?_)
  refine w_aload rfl ?_
  refine w_getR (g_0_0 _) ?_
  refine w_getR (g_1_2 _) ?_
  refine w_iload rfl ?_
  refine w_iald (i := (s).toNat) (ai_4 _) (by omega) (by omega) (ae_4 _) ok (fun z5 hz5 hl5 hh5 => ?_)
  refine w_aload rfl ?_
  refine w_getR (g_0_0 _) ?_
  refine w_getR (g_1_4 _) ?_
  refine w_iload rfl ?_
  refine w_iald (i := (s).toNat) (ai_6 _) (by omega) (by omega) (ae_6 _) ok (fun z6 hz6 hl6 hh6 => ?_)
  refine w_callV3I (ojX (by have hl := fr.len; omega)).choose_spec rfl (e_X6_gives (by have hl := fr.len; omega) ok (GD.fr q0 fr) (by omega) (by omega) (by omega) (by omega) (by omega) (by omega)) ?_
  rintro z7 t7 ⟨ok7, fq7, hp7_0, hp7_1, hp7_2⟩
  have fr7 := fr.then fq7 (by simp)
  refine w_goto ?_
  refine w_step rfl ?_
  refine w_retI rfl ?_
  exact ⟨ok7, fr7, (by first | (exact Or.inl ⟨by omega, by first | omega | (subst_vars; rfl)⟩) | (exact Or.inr (⟨by omega, by first | (rw [hp7_0, hz4, hz5, hz6, ← exF_j t _ (tA t 3 s.toNat)]; exact congrArg (fun o => exF t o (tA t 3 s.toNat) (tA t 3 s.toNat) (tA t 4 s.toNat) (tA t 6 s.toNat)) elw) | exact hz99qq.trans (congrArg (fun o => exF t o (tA t 3 s.toNat) (tA t 3 s.toNat) (tA t 4 s.toNat) (tA t 6 s.toNat)) elw)⟩)))⟩
set_option maxRecDepth 100000 in
set_option maxHeartbeats 4000000 in
theorem e_X8_why {d : Nat} {t : TS} {k : Int}  (ok : OK t) (q0 : -2147483648 ≤ k) (q1 : k ≤ 2147483647) : CI (EX FU (d + 2)) 104 [.ref 0, .int (jI k)] (mk t) (fun z t' => t = t' ∧ (((¬ (0 ≤ k ∧ k ≤ 2)) ∧ z = (-1000000001)) ∨ ((0 ≤ k ∧ k ≤ 2) ∧ (tA t 11 k.toNat = -1) ∧ z = (-1000000005)) ∨ ((0 ≤ k ∧ k ≤ 2) ∧ (¬ tA t 11 k.toNat = -1) ∧ z = tA t 11 k.toNat))) := by
  refine CI_ent (d := d + 1) (Bk := bX8_why) (nL := 2) rfl rfl rfl (Nat.le_of_ble_eq_true rfl) ?_
  show Rn _ 1000000 0 [some (.ref 0), some (.int (jI k))] [] _ _
  have hn0 := (ok.f fe_1_10).1
  have hn1 := (ok.f fe_1_10).2
  refine w_step rfl ?_
  refine w_iload rfl ?_
  refine w_push kc_0 ?_
  refine w_push kc_2 ?_
  refine w_callS3I rfl (c_X8_within ok (by omega) (by omega) (by omega) (by omega) (by omega) (by omega)) ?_
  rintro z1 t1 ⟨rfl, hp1_0⟩
  rcases hp1_0 with ⟨rfl, hp1_0⟩ | ⟨rfl, hp1_0⟩
  · skip
    refine w_ine (by omega) (fun h => absurd h (by omega)) (fun _ => ?_)
    refine w_push kc_m1000000001 ?_
    refine w_retI rfl ?_
    exact ⟨rfl, (by first | (exact Or.inl ⟨by omega, by first | omega | (subst_vars; rfl)⟩) | (exact Or.inr (Or.inl ⟨by omega, by omega, by first | omega | (subst_vars; rfl)⟩)) | (exact Or.inr (Or.inr (⟨by omega, by omega, by first | omega | (subst_vars; rfl)⟩))))⟩
  refine w_ine (by omega) (fun _ => ?_) (fun h => absurd (by omega) h)
  refine w_step rfl ?_
  refine w_aload rfl ?_
  refine w_getR (g_0_0 _) ?_
  refine w_getR (g_1_9 _) ?_
  refine w_iload rfl ?_
  refine w_iald (i := (k).toNat) (ai_11 _) (by omega) (by omega) (ae_11 _) ok (fun z2 hz2 hl2 hh2 => ?_)
  refine w_push kc_m1 ?_
  refine w_cne (by omega) (fun h3 => ?_) (fun h3 => ?_)
  · skip
    refine w_step rfl ?_
    refine w_aload rfl ?_
    refine w_getR (g_0_0 _) ?_
    refine w_getR (g_1_9 _) ?_
    refine w_iload rfl ?_
    refine w_iald (i := (k).toNat) (ai_11 _) (by omega) (by omega) (ae_11 _) ok (fun z4 hz4 hl4 hh4 => ?_)
    refine w_goto ?_
    refine w_step rfl ?_
    refine w_retI rfl ?_
    exact ⟨rfl, (by first | (exact Or.inl ⟨by omega, by first | omega | (subst_vars; rfl)⟩) | (exact Or.inr (Or.inl ⟨by omega, by omega, by first | omega | (subst_vars; rfl)⟩)) | (exact Or.inr (Or.inr (⟨by omega, by omega, by first | omega | (subst_vars; rfl)⟩))))⟩
  refine w_push kc_m1000000005 ?_
  refine w_goto ?_
  refine w_step rfl ?_
  refine w_retI rfl ?_
  exact ⟨rfl, (by first | (exact Or.inl ⟨by omega, by first | omega | (subst_vars; rfl)⟩) | (exact Or.inr (Or.inl ⟨by omega, by omega, by first | omega | (subst_vars; rfl)⟩)) | (exact Or.inr (Or.inr (⟨by omega, by omega, by first | omega | (subst_vars; rfl)⟩))))⟩
