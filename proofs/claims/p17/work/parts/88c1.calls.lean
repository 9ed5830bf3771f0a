set_option maxRecDepth 100000 in
set_option maxHeartbeats 4000000 in
theorem e_X8_knocked {d : Nat} {t : TS} {p : Int}  (ok : OK t) (q0 : HCt t 1) (q1 : -2147483648 ≤ p) (q2 : p ≤ 2147483647) : CI (EX FU (d + 4)) 92 [.ref 0, .int (jI p)] (mk t) (fun z t' => t = t' ∧ (((¬ (0 ≤ p ∧ p ≤ 11)) ∧ z = (-1000000001)) ∨ ((0 ≤ p ∧ p ≤ 11) ∧ z = flF (hvT t 1) (HF (CP t 1).1 (tI t 1 10).toNat) p.toNat))) := by
  refine CI_ent (d := d + 3) (Bk := bX8_knocked) (nL := 2) rfl rfl rfl (Nat.le_of_ble_eq_true rfl) ?_
  show Rn _ 1000000 0 [some (.ref 0), some (.int (jI p))] [] _ _
  have hn0 := (ok.f fe_1_10).1
  have hn1 := (ok.f fe_1_10).2
  refine w_step rfl ?_
  refine w_iload rfl ?_
  refine w_callS1I rfl (c_X8_isPlace ok (by omega) (by omega)) ?_
  rintro z1 t1 ⟨rfl, hp1_0⟩
  rcases hp1_0 with ⟨rfl, hp1_0⟩ | ⟨rfl, hp1_0⟩
  · skip
    refine w_ieq (by omega) (fun _ => ?_) (fun h => absurd (by omega) h)
    refine w_step rfl ?_
    refine w_push kc_m1000000001 ?_
    refine w_goto ?_
    refine w_step rfl ?_
    refine w_retI rfl ?_
    exact ⟨rfl, (by first | (exact Or.inl ⟨by omega, by first | omega | (subst_vars; rfl)⟩) | (exact Or.inr (⟨by omega, by rw [hp99qq_2]; exact fl_c q0 (by omega)⟩)))⟩
  refine w_ieq (by omega) (fun h => absurd h (by omega)) (fun _ => ?_)
  refine w_aload rfl ?_
  refine w_getR (g_0_0 _) ?_
  refine w_iload rfl ?_
  refine w_callV1I (oj_1 _).choose_spec rfl (e_X4_fallFrom isT1 ok (by omega) (by omega)) ?_
  rintro z2 t2 ⟨rfl, hp2_0, hp2_1, hp2_2⟩
  refine w_goto ?_
  refine w_step rfl ?_
  refine w_retI rfl ?_
  exact ⟨rfl, (by first | (exact Or.inl ⟨by omega, by first | omega | (subst_vars; rfl)⟩) | (exact Or.inr (⟨by omega, by rw [hp2_2]; exact fl_c q0 (by omega)⟩)))⟩
set_option maxRecDepth 100000 in
set_option maxHeartbeats 4000000 in
theorem e_X8_push {d : Nat} {t : TS} {w : Int}  (ok : OK t) (q0 : HCt t 1) (q1 : -2147483648 ≤ w) (q2 : w ≤ 2147483647) : CI (EX FU (d + 4)) 93 [.ref 0, .int (jI w)] (mk t) (fun z t' => t = t' ∧ (((¬ (0 ≤ w ∧ w ≤ 1)) ∧ z = (-1000000001)) ∨ ((w = 0) ∧ z = (psF (fun p => flF (hvT t 1) (HF (CP t 1).1 (tI t 1 10).toNat) p) 11).1) ∨ ((w = 1) ∧ z = (psF (fun p => flF (hvT t 1) (HF (CP t 1).1 (tI t 1 10).toNat) p) 11).2))) := by
  refine CI_ent (d := d + 3) (Bk := bX8_push) (nL := 6) rfl rfl rfl (Nat.le_of_ble_eq_true rfl) ?_
  show Rn _ 1000000 0 [some (.ref 0), some (.int (jI w)), none, none, none, none] [] _ _
  have hn0 := (ok.f fe_1_10).1
  have hn1 := (ok.f fe_1_10).2
  refine w_step rfl ?_
  refine w_iload rfl ?_
  refine w_push kc_0 ?_
  refine w_push kc_1 ?_
  refine w_callS3I rfl (c_X8_within ok (by omega) (by omega) (by omega) (by omega) (by omega) (by omega)) ?_
  rintro z1 t1 ⟨rfl, hp1_0⟩
  rcases hp1_0 with ⟨rfl, hp1_0⟩ | ⟨rfl, hp1_0⟩
  · skip
    refine w_ine (by omega) (fun h => absurd h (by omega)) (fun _ => ?_)
    refine w_push kc_m1000000001 ?_
    refine w_retI rfl ?_
    exact ⟨rfl, (by first | (exact Or.inl ⟨by omega, by first | omega | (subst_vars; rfl)⟩) | (exact Or.inr (Or.inl ⟨by omega, by have e := i2_6; rw [show p = 12 by omega] at e; first | exact e.1 | exact e.2⟩)) | (exact Or.inr (Or.inr (⟨by omega, by have e := i2_6; rw [show p = 12 by omega] at e; first | exact e.1 | exact e.2⟩))))⟩
  refine w_ine (by omega) (fun _ => ?_) (fun h => absurd (by omega) h)
  refine w_step rfl ?_
  refine w_aload rfl ?_
  refine w_getR (g_0_0 _) ?_
  refine w_push kc_0 ?_
  refine w_callV1I (oj_1 _).choose_spec rfl (e_X4_fallFrom isT1 ok (by omega) (by omega)) ?_
  rintro z2 t2 ⟨rfl, hp2_0, hp2_1, hp2_2⟩
  have ef0 : z2 = flF (hvT t 1) (HF (CP t 1).1 (tI t 1 10).toNat) 0 := by rw [hp2_2]; exact fl_c q0 (by omega)
  refine w_istore (lv' := [some (.ref 0), some (.int (jI w)), some (.int (jI z2)), none, none, none]) rfl ?_
  refine w_push kc_0 ?_
  refine w_istore (lv' := [some (.ref 0), some (.int (jI w)), some (.int (jI z2)), some (.int (jI 0)), none, none]) rfl ?_
  refine w_push kc_1 ?_
  refine w_istore (lv' := [some (.ref 0), some (.int (jI w)), some (.int (jI z2)), some (.int (jI 0)), some (.int (jI 1)), none]) rfl ?_
  refine w_goto ?_
  have key2 : ∀ (n2 M2 : Nat) (most : Int) (fro : Int) (p : Int) (o5 : Option Int), (0 ≤ most) → (most ≤ 12) → (0 ≤ fro) → (fro ≤ 12) → (1 ≤ p) → (p ≤ 12) → (psP (fun p => flF (hvT t 1) (HF (CP t 1).1 (tI t 1 10).toNat) p) p fro most) → 12 - p < (n2 : Int) → 60 * n2 + (1000) ≤ M2 → Rn (bX8_push (EX FU (d + 3))) M2 2 [some (.ref 0), some (.int (jI w)), some (.int (jI most)), some (.int (jI fro)), some (.int (jI p)), dv o5] [] (mk t) (PI (fun z t' => t = t' ∧ (((¬ (0 ≤ w ∧ w ≤ 1)) ∧ z = (-1000000001)) ∨ ((w = 0) ∧ z = (psF (fun p => flF (hvT t 1) (HF (CP t 1).1 (tI t 1 10).toNat) p) 11).1) ∨ ((w = 1) ∧ z = (psF (fun p => flF (hvT t 1) (HF (CP t 1).1 (tI t 1 10).toNat) p) 11).2)))) := by
    intro n2
    induction n2 with
    | zero => intro M2 most fro p o5 i2_0 i2_1 i2_2 i2_3 i2_4 i2_5 i2_6 v2 f2; exfalso; omega
    | succ n2 ih2 =>
      intro M2 most fro p o5 i2_0 i2_1 i2_2 i2_3 i2_4 i2_5 i2_6 v2 f2
      obtain ⟨M2, rfl⟩ : ∃ m, M2 = m + 60 := ⟨M2 - 60, by omega⟩
      refine w_step rfl ?_
      refine w_iload rfl ?_
      refine w_push kc_12 ?_
      refine w_cge (by omega) (fun h3 => ?_) (fun h3 => ?_)
      · skip
        refine w_step rfl ?_
        refine w_iload rfl ?_
        refine w_ine (by omega) (fun h4 => ?_) (fun h4 => ?_)
        · skip
          refine w_step rfl ?_
          refine w_iload rfl ?_
          refine w_goto ?_
          refine w_step rfl ?_
          refine w_retI rfl ?_
          exact ⟨rfl, (by first | (exact Or.inl ⟨by omega, by first | omega | (subst_vars; rfl)⟩) | (exact Or.inr (Or.inl ⟨by omega, by have e := i2_6; rw [show p = 12 by omega] at e; first | exact e.1 | exact e.2⟩)) | (exact Or.inr (Or.inr (⟨by omega, by have e := i2_6; rw [show p = 12 by omega] at e; first | exact e.1 | exact e.2⟩))))⟩
        refine w_iload rfl ?_
        refine w_goto ?_
        refine w_step rfl ?_
        refine w_retI rfl ?_
        exact ⟨rfl, (by first | (exact Or.inl ⟨by omega, by first | omega | (subst_vars; rfl)⟩) | (exact Or.inr (Or.inl ⟨by omega, by have e := i2_6; rw [show p = 12 by omega] at e; first | exact e.1 | exact e.2⟩)) | (exact Or.inr (Or.inr (⟨by omega, by have e := i2_6; rw [show p = 12 by omega] at e; first | exact e.1 | exact e.2⟩))))⟩
      refine w_aload rfl ?_
      refine w_getR (g_0_0 _) ?_
      refine w_iload rfl ?_
      refine w_callV1I (oj_1 _).choose_spec rfl (e_X4_fallFrom isT1 ok (by omega) (by omega)) ?_
      rintro z5 t5 ⟨rfl, hp5_0, hp5_1, hp5_2⟩
      have ef : z5 = (fun p => flF (hvT t 1) (HF (CP t 1).1 (tI t 1 10).toNat) p) p.toNat := by rw [hp5_2]; exact fl_c q0 (by omega)
      refine w_istore (lv' := [some (.ref 0), some (.int (jI w)), some (.int (jI most)), some (.int (jI fro)), some (.int (jI p)), some (.int (jI z5))]) rfl ?_
      refine w_iload rfl ?_
      refine w_iload rfl ?_
      refine w_cle (by omega) (fun h6 => ?_) (fun h6 => ?_)
      · skip
        refine w_step rfl ?_
        refine w_iinc (lv' := [some (.ref 0), some (.int (jI w)), some (.int (jI most)), some (.int (jI fro)), some (.int (jI (p + 1))), some (.int (jI z5))]) kc_1 rfl rfl ?_
        refine w_goto ?_
        exact ih2 _ most fro (p + 1) (some z5)  (by omega) (by omega) (by omega) (by omega) (by omega) (by omega) (by first | exact i2_6.y (by omega) ef (by omega) | exact i2_6.n (by omega) ef (by omega) | omega) (by omega) (by omega)
      refine w_iload rfl ?_
      refine w_istore (lv' := [some (.ref 0), some (.int (jI w)), some (.int (jI z5)), some (.int (jI fro)), some (.int (jI p)), some (.int (jI z5))]) rfl ?_
      refine w_iload rfl ?_
      refine w_istore (lv' := [some (.ref 0), some (.int (jI w)), some (.int (jI z5)), some (.int (jI p)), some (.int (jI p)), some (.int (jI z5))]) rfl ?_
      refine w_goto ?_
      refine w_step rfl ?_
      refine w_iinc (lv' := [some (.ref 0), some (.int (jI w)), some (.int (jI z5)), some (.int (jI p)), some (.int (jI (p + 1))), some (.int (jI z5))]) kc_1 rfl rfl ?_
      refine w_goto ?_
      exact ih2 _ z5 p (p + 1) (some z5)  (by omega) (by omega) (by omega) (by omega) (by omega) (by omega) (by first | exact i2_6.y (by omega) ef (by omega) | exact i2_6.n (by omega) ef (by omega) | omega) (by omega) (by omega)
  exact key2 13 _ z2 0 1 none  (by omega) (by omega) (by omega) (by omega) (by omega) (by omega) ⟨rfl, ef0⟩ (by omega) (by omega)
set_option maxRecDepth 100000 in
set_option maxHeartbeats 4000000 in
theorem e_X8_behind {d : Nat} {t : TS} {n w : Int}  (ok : OK t) (q0 : HCt t 1) (q1 : -2147483648 ≤ n) (q2 : n ≤ 2147483647) (q3 : -2147483648 ≤ w) (q4 : w ≤ 2147483647) : CI (EX FU (d + 7)) 94 [.ref 0, .int (jI n), .int (jI w)] (mk t) (fun z t' => OK t' ∧ Fr [(24, 10), (24, 11), (24, 12), (24, 13), (24, 14), (25, 100), (26, 100), (27, 100), (28, 100), (29, 100), (30, 100), (31, 100), (32, 100), (34, 100), (33, 101)] t t' ∧ (((¬ (0 ≤ n ∧ n ≤ 100 ∧ 0 ≤ w ∧ w ≤ 14)) ∧ z = (-1000000001)) ∨ ((0 ≤ n ∧ n ≤ 100) ∧ (w = 0) ∧ z = pcX t 1 n.toNat) ∨ ((0 ≤ n ∧ n ≤ 100) ∧ (w = 1) ∧ z = mtX t 1 n.toNat) ∨ ((0 ≤ n ∧ n ≤ 100) ∧ (w = 2) ∧ z = cnX t 1 n.toNat) ∨ ((0 ≤ n ∧ n ≤ 100) ∧ (3 ≤ w ∧ w ≤ 14) ∧ (atX t 1 n.toNat (w - 3) = -1) ∧ z = (-1000000005)) ∨ ((0 ≤ n ∧ n ≤ 100) ∧ (3 ≤ w ∧ w ≤ 14) ∧ (¬ atX t 1 n.toNat (w - 3) = -1) ∧ z = atX t 1 n.toNat (w - 3)))) := by
  refine CI_ent (d := d + 6) (Bk := bX8_behind) (nL := 4) rfl rfl rfl (Nat.le_of_ble_eq_true rfl) ?_
  show Rn _ 1000000 0 [some (.ref 0), some (.int (jI n)), some (.int (jI w)), none] [] _ _
  have fr : Fr [(24, 10), (24, 11), (24, 12), (24, 13), (24, 14), (25, 100), (26, 100), (27, 100), (28, 100), (29, 100), (30, 100), (31, 100), (32, 100), (34, 100), (33, 101)] t t := Fr.rf _ _
  have hn0 := (ok.f fe_1_10).1
  have hn1 := (ok.f fe_1_10).2
  refine w_step rfl ?_
  refine w_iload rfl ?_
  refine w_push kc_0 ?_
  refine w_push kc_100 ?_
  refine w_callS3I rfl (c_X8_within ok (by omega) (by omega) (by omega) (by omega) (by omega) (by omega)) ?_
  rintro z1 t1 ⟨rfl, hp1_0⟩
  rcases hp1_0 with ⟨rfl, hp1_0⟩ | ⟨rfl, hp1_0⟩
  · skip
    refine w_ieq (by omega) (fun _ => ?_) (fun h => absurd (by omega) h)
    refine w_step rfl ?_
    refine w_push kc_m1000000001 ?_
    refine w_retI rfl ?_
    exact ⟨ok, fr, (by (try rcases hL with hL | hL) <;> first | (exact Or.inl ⟨by omega, by first | omega | (subst_vars; rfl)⟩) | (exact Or.inr (Or.inl ⟨by omega, by omega, by rw [hp99qq_2]; exact bh_pic bh ok⟩)) | (exact Or.inr (Or.inr (Or.inl ⟨by omega, by omega, by rw [hp99qq_2]; exact bh_mat bh (by omega)⟩))) | (exact Or.inr (Or.inr (Or.inr (Or.inl ⟨by omega, by omega, by rw [hp99qq_0]; exact bh_cn bh⟩)))) | (exact Or.inr (Or.inr (Or.inr (Or.inr (Or.inl ⟨by omega, by omega, by omega, by first | omega | (subst_vars; rfl)⟩))))) | (exact Or.inr (Or.inr (Or.inr (Or.inr (Or.inr (⟨by omega, by omega, by omega, by omega⟩)))))))⟩
  refine w_ieq (by omega) (fun h => absurd h (by omega)) (fun _ => ?_)
  refine w_iload rfl ?_
  refine w_push kc_0 ?_
  refine w_push kc_14 ?_
  refine w_callS3I rfl (c_X8_within ok (by omega) (by omega) (by omega) (by omega) (by omega) (by omega)) ?_
  rintro z2 t2 ⟨rfl, hp2_0⟩
  rcases hp2_0 with ⟨rfl, hp2_0⟩ | ⟨rfl, hp2_0⟩
  · skip
    refine w_ine (by omega) (fun h => absurd h (by omega)) (fun _ => ?_)
    refine w_goto ?_
    refine w_step rfl ?_
    refine w_push kc_m1000000001 ?_
    refine w_retI rfl ?_
    exact ⟨ok, fr, (by (try rcases hL with hL | hL) <;> first | (exact Or.inl ⟨by omega, by first | omega | (subst_vars; rfl)⟩) | (exact Or.inr (Or.inl ⟨by omega, by omega, by rw [hp99qq_2]; exact bh_pic bh ok⟩)) | (exact Or.inr (Or.inr (Or.inl ⟨by omega, by omega, by rw [hp99qq_2]; exact bh_mat bh (by omega)⟩))) | (exact Or.inr (Or.inr (Or.inr (Or.inl ⟨by omega, by omega, by rw [hp99qq_0]; exact bh_cn bh⟩)))) | (exact Or.inr (Or.inr (Or.inr (Or.inr (Or.inl ⟨by omega, by omega, by omega, by first | omega | (subst_vars; rfl)⟩))))) | (exact Or.inr (Or.inr (Or.inr (Or.inr (Or.inr (⟨by omega, by omega, by omega, by omega⟩)))))))⟩
  refine w_ine (by omega) (fun _ => ?_) (fun h => absurd (by omega) h)
  refine w_step rfl ?_
  refine w_aload rfl ?_
  refine w_getR (g_0_2 _) ?_
  refine w_aload rfl ?_
  refine w_getR (g_0_0 _) ?_
  refine w_iload rfl ?_
  refine w_callV2R (oj_23 _).choose_spec rfl (e_X7_behindDays_tab ok (by omega) (by omega) (by omega)) ?_ ?_
  · rintro t3 ⟨ok3, fq3, hp3_0, hp3_1⟩; cases hp3_0
  rintro r3 t3 ⟨ok3, fq3, hp3_0, hp3_1⟩
  cases hp3_0
  have fr3 := fr.then fq3 (by simp)
  have bh := hp3_1
  refine w_astore (lv' := [some (.ref 0), some (.int (jI n)), some (.int (jI w)), some (.ref 24)]) rfl ?_
  refine w_iload rfl ?_
  have hs4 : w = 0 ∨ w = 1 ∨ w = 2 ∨ (w < 0 ∨ 0 + 3 ≤ w) := (by omega)
  rcases hs4 with hs4 | hs4 | hs4 | hs4
  · refine w_sw (n := 3) (tsw_at hs4 (by decide)) ?_
    refine w_step rfl ?_
    refine w_aload rfl ?_
    refine w_callV0I (oj_24 _).choose_spec rfl (e_X4_picture isT24 ok3) ?_
    rintro z5 t5 ⟨rfl, hp5_0, hp5_1, hp5_2⟩
    refine w_retI rfl ?_
    exact ⟨ok3, fr3, (by (try rcases hL with hL | hL) <;> first | (exact Or.inl ⟨by omega, by first | omega | (subst_vars; rfl)⟩) | (exact Or.inr (Or.inl ⟨by omega, by omega, by rw [hp5_2]; exact bh_pic bh ok3⟩)) | (exact Or.inr (Or.inr (Or.inl ⟨by omega, by omega, by rw [hp5_2]; exact bh_mat bh (by omega)⟩))) | (exact Or.inr (Or.inr (Or.inr (Or.inl ⟨by omega, by omega, by rw [hp5_0]; exact bh_cn bh⟩)))) | (exact Or.inr (Or.inr (Or.inr (Or.inr (Or.inl ⟨by omega, by omega, by omega, by first | omega | (subst_vars; rfl)⟩))))) | (exact Or.inr (Or.inr (Or.inr (Or.inr (Or.inr (⟨by omega, by omega, by omega, by omega⟩)))))))⟩
  · refine w_sw (n := 4) (tsw_at hs4 (by decide)) ?_
    refine w_step rfl ?_
    refine w_aload rfl ?_
    refine w_callV0I (oj_24 _).choose_spec rfl (e_X4_matches isT24 ok3) ?_
    rintro z6 t6 ⟨rfl, hp6_0, hp6_1, hp6_2⟩
    refine w_retI rfl ?_
    exact ⟨ok3, fr3, (by (try rcases hL with hL | hL) <;> first | (exact Or.inl ⟨by omega, by first | omega | (subst_vars; rfl)⟩) | (exact Or.inr (Or.inl ⟨by omega, by omega, by rw [hp6_2]; exact bh_pic bh ok3⟩)) | (exact Or.inr (Or.inr (Or.inl ⟨by omega, by omega, by rw [hp6_2]; exact bh_mat bh (by omega)⟩))) | (exact Or.inr (Or.inr (Or.inr (Or.inl ⟨by omega, by omega, by rw [hp6_0]; exact bh_cn bh⟩)))) | (exact Or.inr (Or.inr (Or.inr (Or.inr (Or.inl ⟨by omega, by omega, by omega, by first | omega | (subst_vars; rfl)⟩))))) | (exact Or.inr (Or.inr (Or.inr (Or.inr (Or.inr (⟨by omega, by omega, by omega, by omega⟩)))))))⟩
  · refine w_sw (n := 5) (tsw_at hs4 (by decide)) ?_
    refine w_step rfl ?_
    refine w_aload rfl ?_
    refine w_callV0I (oj_24 _).choose_spec rfl (e_X4_laidStones isT24 ok3) ?_
    rintro z7 t7 ⟨rfl, hp7_0, hp7_1, hp7_2⟩
    refine w_retI rfl ?_
    exact ⟨ok3, fr3, (by (try rcases hL with hL | hL) <;> first | (exact Or.inl ⟨by omega, by first | omega | (subst_vars; rfl)⟩) | (exact Or.inr (Or.inl ⟨by omega, by omega, by rw [hp7_2]; exact bh_pic bh ok3⟩)) | (exact Or.inr (Or.inr (Or.inl ⟨by omega, by omega, by rw [hp7_2]; exact bh_mat bh (by omega)⟩))) | (exact Or.inr (Or.inr (Or.inr (Or.inl ⟨by omega, by omega, by rw [hp7_0]; exact bh_cn bh⟩)))) | (exact Or.inr (Or.inr (Or.inr (Or.inr (Or.inl ⟨by omega, by omega, by omega, by first | omega | (subst_vars; rfl)⟩))))) | (exact Or.inr (Or.inr (Or.inr (Or.inr (Or.inr (⟨by omega, by omega, by omega, by omega⟩)))))))⟩
  · refine w_sw (n := 6) (tsw_df (m := 3) rfl (by omega) (by omega)) ?_
    refine w_step rfl ?_
    refine w_aload rfl ?_
    refine w_getR (g_24_5 _) ?_
    refine w_iload rfl ?_
    refine w_push kc_3 ?_
    refine w_sub ?_
    refine w_iald (i := ((w - 3)).toNat) (ai_30 _) (by omega) (by omega) (ae_30 _) ok3 (fun z8 hz8 hl8 hh8 => ?_)
    have eh : z8 = atX t 1 n.toNat (w - 3) := by
      rw [hz8]
      refine (bh_at bh (p := (w - 3).toNat) (by omega)).trans ?_
      unfold atX
      congr 1
      omega
    refine w_callS1I rfl (c_X8_stoneOrNone ok3 (by omega) (by omega)) ?_
    rintro z9 t9 ⟨rfl, hp9_0⟩
    have hL := hp9_0
    refine w_retI rfl ?_
    exact ⟨ok3, fr3, (by (try rcases hL with hL | hL) <;> first | (exact Or.inl ⟨by omega, by first | omega | (subst_vars; rfl)⟩) | (exact Or.inr (Or.inl ⟨by omega, by omega, by rw [hp99qq_2]; exact bh_pic bh ok3⟩)) | (exact Or.inr (Or.inr (Or.inl ⟨by omega, by omega, by rw [hp99qq_2]; exact bh_mat bh (by omega)⟩))) | (exact Or.inr (Or.inr (Or.inr (Or.inl ⟨by omega, by omega, by rw [hp99qq_0]; exact bh_cn bh⟩)))) | (exact Or.inr (Or.inr (Or.inr (Or.inr (Or.inl ⟨by omega, by omega, by omega, by first | omega | (subst_vars; rfl)⟩))))) | (exact Or.inr (Or.inr (Or.inr (Or.inr (Or.inr (⟨by omega, by omega, by omega, by omega⟩)))))))⟩
set_option maxRecDepth 100000 in
set_option maxHeartbeats 4000000 in
theorem e_X8_laid {d : Nat} {t : TS}  (ok : OK t) (q0 : HCt t 1) : CI (EX FU (d + 6)) 95 [.ref 0] (mk t) (fun z t' => OK t' ∧ Fr [(24, 10), (24, 11), (24, 12), (24, 13), (24, 14), (25, 100), (26, 100), (27, 100), (28, 100), (29, 100), (30, 100), (31, 100), (32, 100), (34, 100), (33, 101)] t t' ∧ (FsP (fun m => (cnX t 1 m = 12 ∨ cnX t 1 m = tI t 1 10)) 201 z)) := by
  refine CI_ent (d := d + 5) (Bk := bX8_laid) (nL := 1) rfl rfl rfl (Nat.le_of_ble_eq_true rfl) ?_
  show Rn _ 1000000 0 [some (.ref 0)] [] _ _
  have fr : Fr [(24, 10), (24, 11), (24, 12), (24, 13), (24, 14), (25, 100), (26, 100), (27, 100), (28, 100), (29, 100), (30, 100), (31, 100), (32, 100), (34, 100), (33, 101)] t t := Fr.rf _ _
  have hn0 := (ok.f fe_1_10).1
  have hn1 := (ok.f fe_1_10).2
  refine w_step rfl ?_
  refine w_aload rfl ?_
  refine w_getR (g_0_2 _) ?_
  refine w_aload rfl ?_
  refine w_getR (g_0_0 _) ?_
  refine w_callV1I (oj_23 _).choose_spec rfl (e_X7_daysTillLaid ok (by omega)) ?_
  rintro z1 t1 ⟨ok1, fq1, hp1_0, hp1_1, hp1_2⟩
  have fr1 := fr.then fq1 (by simp)
  refine w_retI rfl ?_
  exact ⟨ok1, fr1, hp1_2⟩
