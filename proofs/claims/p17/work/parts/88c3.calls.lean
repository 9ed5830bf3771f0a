set_option maxRecDepth 100000 in
set_option maxHeartbeats 4000000 in
theorem e_X8_textTold {d : Nat} {t : TS} {x w : Int}  (ok : OK t) (q0 : -2147483648 ≤ x) (q1 : x ≤ 2147483647) (q2 : -2147483648 ≤ w) (q3 : w ≤ 2147483647) : CI (EX FU (d + 3)) 103 [.ref 0, .int (jI x), .int (jI w)] (mk t) (fun z t' => t = t' ∧ ((z = (-1000000001) ∧ ((if 0 ≤ x ∧ x ≤ tI t 1 11 - 1 then tT t 10 x.toNat else none) = none ∨ ¬ (0 ≤ w ∧ w ≤ 1))) ∨ (0 ≤ w ∧ w ≤ 1 ∧ ∃ j, j < (tD t).length ∧ (if 0 ≤ x ∧ x ≤ tI t 1 11 - 1 then tT t 10 x.toNat else none) = some (92 + 4 * j) ∧ ((w = 0 ∧ z = (tx t j).1) ∨ (w = 1 ∧ z = (tx t j).2.1))))) := by
  refine CI_ent (d := d + 2) (Bk := bX8_textTold) (nL := 4) rfl rfl rfl (Nat.le_of_ble_eq_true rfl) ?_
  show Rn _ 1000000 0 [some (.ref 0), some (.int (jI x)), some (.int (jI w)), none] [] _ _
  have hn0 := (ok.f fe_1_10).1
  have hn1 := (ok.f fe_1_10).2
  refine w_step rfl ?_
  refine w_aload rfl ?_
  refine w_getR (g_0_0 _) ?_
  refine w_iload rfl ?_
  refine w_callV1R (oj_1 _).choose_spec rfl (e_X4_textAt isT1 ok (by omega) (by omega)) ?_ ?_
  · rintro t1 ⟨rfl, hp1_0, hp1_1⟩
    have eto := hp1_1
    have ejj := hp1_0
    refine w_astoreN (lv' := [some (.ref 0), some (.int (jI x)), some (.int (jI w)), some (.null)]) rfl ?_
    refine w_aloadN rfl ?_
    refine w_ifnullN ?_
    refine w_step rfl ?_
    refine w_push kc_m1000000001 ?_
    refine w_retI rfl ?_
    exact ⟨rfl, (by first | exact Or.inl ⟨rfl, Or.inl eto.symm⟩ | exact Or.inl ⟨rfl, Or.inr (by omega)⟩ | exact Or.inr ⟨by omega, by omega, _, by assumption, eto.symm, by omega⟩)⟩
  rintro r1 t1 ⟨rfl, hp1_0, hp1_1⟩
  obtain ⟨j1, hj1, rfl⟩ := hp1_0 _ rfl
  have eto := hp1_1
  have ejj := hp1_0
  refine w_astore (lv' := [some (.ref 0), some (.int (jI x)), some (.int (jI w)), some (.ref (92 + 4 * j1))]) rfl ?_
  refine w_aload rfl ?_
  refine w_ifnullR ?_
  refine w_iload rfl ?_
  refine w_push kc_0 ?_
  refine w_push kc_1 ?_
  refine w_callS3I rfl (c_X8_within ok (by omega) (by omega) (by omega) (by omega) (by omega) (by omega)) ?_
  rintro z2 t2 ⟨rfl, hp2_0⟩
  rcases hp2_0 with ⟨rfl, hp2_0⟩ | ⟨rfl, hp2_0⟩
  · skip
    refine w_ine (by omega) (fun h => absurd h (by omega)) (fun _ => ?_)
    refine w_goto ?_
    refine w_step rfl ?_
    refine w_push kc_m1000000001 ?_
    refine w_retI rfl ?_
    exact ⟨rfl, (by first | exact Or.inl ⟨rfl, Or.inl eto.symm⟩ | exact Or.inl ⟨rfl, Or.inr (by omega)⟩ | exact Or.inr ⟨by omega, by omega, _, by assumption, eto.symm, by omega⟩)⟩
  refine w_ine (by omega) (fun _ => ?_) (fun h => absurd (by omega) h)
  refine w_step rfl ?_
  refine w_iload rfl ?_
  refine w_ine (by omega) (fun h3 => ?_) (fun h3 => ?_)
  · skip
    refine w_step rfl ?_
    refine w_aload rfl ?_
    refine w_getX1 hj1 ok (fun z4 hz4 hl4 hh4 => ?_)
    refine w_goto ?_
    refine w_step rfl ?_
    refine w_retI rfl ?_
    exact ⟨rfl, (by first | exact Or.inl ⟨rfl, Or.inl eto.symm⟩ | exact Or.inl ⟨rfl, Or.inr (by omega)⟩ | exact Or.inr ⟨by omega, by omega, _, by assumption, eto.symm, by omega⟩)⟩
  refine w_aload rfl ?_
  refine w_getX0 hj1 ok (fun z5 hz5 hl5 hh5 => ?_)
  refine w_goto ?_
  refine w_step rfl ?_
  refine w_retI rfl ?_
  exact ⟨rfl, (by first | exact Or.inl ⟨rfl, Or.inl eto.symm⟩ | exact Or.inl ⟨rfl, Or.inr (by omega)⟩ | exact Or.inr ⟨by omega, by omega, _, by assumption, eto.symm, by omega⟩)⟩
set_option maxRecDepth 100000 in
set_option maxHeartbeats 4000000 in
theorem e_X8_reads {d : Nat} {t : TS} {k : Int}  (ok : OK t) (q0 : -2147483648 ≤ k) (q1 : k ≤ 2147483647) : CI (EX FU (d + 3)) 108 [.ref 0, .int (jI k)] (mk t) (fun z t' => t = t' ∧ (((¬ (0 ≤ k ∧ k ≤ 3)) ∧ z = (-1000000001)) ∨ ((0 ≤ k ∧ k ≤ 3) ∧ (tI t (45 + 2 * k.toNat) 1 = -1) ∧ z = (-1000000011)) ∨ ((0 ≤ k ∧ k ≤ 3) ∧ (¬ tI t (45 + 2 * k.toNat) 1 = -1) ∧ (FsP (fun i => ¬ tA t ((45 + 2 * k.toNat) + 1) i = -1000000005 ∧ (12 ≤ (i : Int) ∨ ¬ tA t ((45 + 2 * k.toNat) + 1) i = tA t 7 i)) (tI t (45 + 2 * k.toNat) 2) z)))) := by
  refine CI_ent (d := d + 2) (Bk := bX8_reads) (nL := 4) rfl rfl rfl (Nat.le_of_ble_eq_true rfl) ?_
  show Rn _ 1000000 0 [some (.ref 0), some (.int (jI k)), none, none] [] _ _
  have hn0 := (ok.f fe_1_10).1
  have hn1 := (ok.f fe_1_10).2
  have rz := fun q : (0 ≤ k ∧ k ≤ 3) => ok.f (feH_2 (isH_s (i := k.toNat) (by omega)))
  refine w_step rfl ?_
  refine w_iload rfl ?_
  refine w_callS1I rfl (c_X8_isSheet ok (by omega) (by omega)) ?_
  rintro z1 t1 ⟨rfl, hp1_0⟩
  rcases hp1_0 with ⟨rfl, hp1_0⟩ | ⟨rfl, hp1_0⟩
  · skip
    refine w_ine (by omega) (fun h => absurd h (by omega)) (fun _ => ?_)
    refine w_push kc_m1000000001 ?_
    refine w_retI rfl ?_
    exact ⟨rfl, (by first | (exact Or.inl ⟨by omega, by first | omega | (subst_vars; rfl)⟩) | (exact Or.inr (Or.inl ⟨by omega, by omega, by first | omega | (subst_vars; rfl)⟩)) | (exact Or.inr (Or.inr (⟨by omega, by omega, by first | exact Or.inl ⟨rfl, fun i h1 h2 => i3_3 i h1 (by omega)⟩ | exact Or.inr ⟨by omega, by omega, by show (_ ∧ _); omega, i3_3⟩⟩))))⟩
  refine w_ine (by omega) (fun _ => ?_) (fun h => absurd (by omega) h)
  refine w_step rfl ?_
  refine w_aload rfl ?_
  refine w_getR (g_0_5 _) ?_
  refine w_iload rfl ?_
  refine w_sheets (i := (k).toNat) (by omega) (by omega) ?_
  refine w_astore (lv' := [some (.ref 0), some (.int (jI k)), some (.ref (45 + 2 * (k).toNat)), none]) rfl ?_
  refine w_aload rfl ?_
  refine w_callV0I (ojH (isH_s (i := (k).toNat) (by omega)) _).choose_spec rfl (c_X2_isMissing (isH_s (i := (k).toNat) (by omega)) ok) ?_
  rintro z2 t2 ⟨rfl, hp2_0⟩
  rcases hp2_0 with ⟨rfl, hp2_0⟩ | ⟨rfl, hp2_0⟩
  · skip
    refine w_ieq (by omega) (fun _ => ?_) (fun h => absurd (by omega) h)
    refine w_step rfl ?_
    refine w_push kc_0 ?_
    refine w_istore (lv' := [some (.ref 0), some (.int (jI k)), some (.ref (45 + 2 * (k).toNat)), some (.int (jI 0))]) rfl ?_
    refine w_goto ?_
    have key3 : ∀ (n3 M3 : Nat) (p : Int), (0 ≤ p) → (p ≤ 24) → (p ≤ tI t (45 + 2 * k.toNat) 2) → (∀ i : Int, 0 ≤ i → i < p → ¬ (fun i => ¬ tA t ((45 + 2 * k.toNat) + 1) i = -1000000005 ∧ (12 ≤ (i : Int) ∨ ¬ tA t ((45 + 2 * k.toNat) + 1) i = tA t 7 i)) i.toNat) → 24 - p < (n3 : Int) → 60 * n3 + (1000) ≤ M3 → Rn (bX8_reads (EX FU (d + 2))) M3 3 [some (.ref 0), some (.int (jI k)), some (.ref (45 + 2 * (k).toNat)), some (.int (jI p))] [] (mk t) (PI (fun z t' => t = t' ∧ (((¬ (0 ≤ k ∧ k ≤ 3)) ∧ z = (-1000000001)) ∨ ((0 ≤ k ∧ k ≤ 3) ∧ (tI t (45 + 2 * k.toNat) 1 = -1) ∧ z = (-1000000011)) ∨ ((0 ≤ k ∧ k ≤ 3) ∧ (¬ tI t (45 + 2 * k.toNat) 1 = -1) ∧ (FsP (fun i => ¬ tA t ((45 + 2 * k.toNat) + 1) i = -1000000005 ∧ (12 ≤ (i : Int) ∨ ¬ tA t ((45 + 2 * k.toNat) + 1) i = tA t 7 i)) (tI t (45 + 2 * k.toNat) 2) z))))) := by
      intro n3
      induction n3 with
      | zero => intro M3 p i3_0 i3_1 i3_2 i3_3 v3 f3; exfalso; omega
      | succ n3 ih3 =>
        intro M3 p i3_0 i3_1 i3_2 i3_3 v3 f3
        obtain ⟨M3, rfl⟩ : ∃ m, M3 = m + 60 := ⟨M3 - 60, by omega⟩
        refine w_step rfl ?_
        refine w_iload rfl ?_
        refine w_aload rfl ?_
        refine w_getI (gH_2 (isH_s (i := (k).toNat) (by omega)) _) (feH_2 (isH_s (i := (k).toNat) (by omega))) ok (fun z3 hz3 hl3 hh3 => ?_)
        refine w_cge (by omega) (fun h4 => ?_) (fun h4 => ?_)
        · skip
          refine w_step rfl ?_
          refine w_push kc_m1000000005 ?_
          refine w_retI rfl ?_
          exact ⟨rfl, (by first | (exact Or.inl ⟨by omega, by first | omega | (subst_vars; rfl)⟩) | (exact Or.inr (Or.inl ⟨by omega, by omega, by first | omega | (subst_vars; rfl)⟩)) | (exact Or.inr (Or.inr (⟨by omega, by omega, by first | exact Or.inl ⟨rfl, fun i h1 h2 => i3_3 i h1 (by omega)⟩ | exact Or.inr ⟨by omega, by omega, by show (_ ∧ _); omega, i3_3⟩⟩))))⟩
        refine w_aload rfl ?_
        refine w_iload rfl ?_
        refine w_callV1I (ojH (isH_s (i := (k).toNat) (by omega)) _).choose_spec rfl (c_X2_isNumber (isH_s (i := (k).toNat) (by omega)) ok (by omega) (by omega)) ?_
        rintro z5 t5 ⟨rfl, hp5_0⟩
        rcases hp5_0 with ⟨rfl, hp5_0⟩ | ⟨rfl, hp5_0⟩
        · skip
          refine w_ieq (by omega) (fun _ => ?_) (fun h => absurd (by omega) h)
          refine w_step rfl ?_
          refine w_iinc (lv' := [some (.ref 0), some (.int (jI k)), some (.ref (45 + 2 * (k).toNat)), some (.int (jI (p + 1)))]) kc_1 rfl rfl ?_
          refine w_goto ?_
          exact ih3 _ (p + 1)  (by omega) (by omega) (by omega) (fun i h1 h2 => (Int.lt_or_eq_of_le (show i ≤ p by omega)).elim (i3_3 i h1) (fun e => by rw [e]; show ¬ (_ ∧ _); omega)) (by omega) (by omega)
        refine w_ieq (by omega) (fun h => absurd h (by omega)) (fun _ => ?_)
        refine w_iload rfl ?_
        refine w_push kc_12 ?_
        refine w_cge (by omega) (fun h6 => ?_) (fun h6 => ?_)
        · skip
          refine w_step rfl ?_
          refine w_iload rfl ?_
          refine w_retI rfl ?_
          exact ⟨rfl, (by first | (exact Or.inl ⟨by omega, by first | omega | (subst_vars; rfl)⟩) | (exact Or.inr (Or.inl ⟨by omega, by omega, by first | omega | (subst_vars; rfl)⟩)) | (exact Or.inr (Or.inr (⟨by omega, by omega, by first | exact Or.inl ⟨rfl, fun i h1 h2 => i3_3 i h1 (by omega)⟩ | exact Or.inr ⟨by omega, by omega, by show (_ ∧ _); omega, i3_3⟩⟩))))⟩
        refine w_aload rfl ?_
        refine w_getR (gH_0 (isH_s (i := (k).toNat) (by omega)) _) ?_
        refine w_iload rfl ?_
        refine w_iald (i := (p).toNat) (aiH_1 (isH_s (i := (k).toNat) (by omega)) _) (by omega) (by omega) (aeH_1 (isH_s (i := (k).toNat) (by omega)) _) ok (fun z7 hz7 hl7 hh7 => ?_)
        refine w_aload rfl ?_
        refine w_getR (g_0_0 _) ?_
        refine w_getR (g_1_5 _) ?_
        refine w_iload rfl ?_
        refine w_iald (i := (p).toNat) (ai_7 _) (by omega) (by omega) (ae_7 _) ok (fun z8 hz8 hl8 hh8 => ?_)
        refine w_ceq (by omega) (fun h9 => ?_) (fun h9 => ?_)
        · skip
          refine w_step rfl ?_
          refine w_iinc (lv' := [some (.ref 0), some (.int (jI k)), some (.ref (45 + 2 * (k).toNat)), some (.int (jI (p + 1)))]) kc_1 rfl rfl ?_
          refine w_goto ?_
          exact ih3 _ (p + 1)  (by omega) (by omega) (by omega) (fun i h1 h2 => (Int.lt_or_eq_of_le (show i ≤ p by omega)).elim (i3_3 i h1) (fun e => by rw [e]; show ¬ (_ ∧ _); omega)) (by omega) (by omega)
        refine w_goto ?_
        refine w_step rfl ?_
        refine w_iload rfl ?_
        refine w_retI rfl ?_
        exact ⟨rfl, (by first | (exact Or.inl ⟨by omega, by first | omega | (subst_vars; rfl)⟩) | (exact Or.inr (Or.inl ⟨by omega, by omega, by first | omega | (subst_vars; rfl)⟩)) | (exact Or.inr (Or.inr (⟨by omega, by omega, by first | exact Or.inl ⟨rfl, fun i h1 h2 => i3_3 i h1 (by omega)⟩ | exact Or.inr ⟨by omega, by omega, by show (_ ∧ _); omega, i3_3⟩⟩))))⟩
    exact key3 25 _ 0  (by omega) (by omega) (by omega) (fun i h1 h2 => by omega) (by omega) (by omega)
  refine w_ieq (by omega) (fun h => absurd h (by omega)) (fun _ => ?_)
  refine w_push kc_m1000000011 ?_
  refine w_retI rfl ?_
  exact ⟨rfl, (by first | (exact Or.inl ⟨by omega, by first | omega | (subst_vars; rfl)⟩) | (exact Or.inr (Or.inl ⟨by omega, by omega, by first | omega | (subst_vars; rfl)⟩)) | (exact Or.inr (Or.inr (⟨by omega, by omega, by first | exact Or.inl ⟨rfl, fun i h1 h2 => i3_3 i h1 (by omega)⟩ | exact Or.inr ⟨by omega, by omega, by show (_ ∧ _); omega, i3_3⟩⟩))))⟩
set_option maxRecDepth 100000 in
set_option maxHeartbeats 4000000 in
theorem e_X8_check {d : Nat} {t : TS} {n : Int}  (ok : OK t) (q0 : ¬ tI t 0 9 = 0 → HCt t 12) (q1 : -2147483648 ≤ n) (q2 : n ≤ 2147483647) (q3 : 0 ≤ tI t 12 13) (q4 : tI t 12 13 ≤ 9999) : CI (EX FU (d + 6)) 115 [.ref 0, .int (jI n)] (mk t) (fun z t' => OK t' ∧ Fr [(0, 8), (24, 10), (24, 11), (24, 12), (24, 13), (24, 14), (25, 100), (26, 100), (27, 100), (28, 100), (29, 100), (30, 100), (31, 100), (32, 100), (34, 100), (33, 101)] t t' ∧ (tI t' 0 8 = 0) ∧ (((¬ (1 ≤ n ∧ n ≤ 30)) ∧ z = (-1000000001)) ∨ ((1 ≤ n ∧ n ≤ 30) ∧ (tI t 0 9 = 0) ∧ z = (-1000000002)) ∨ ((1 ≤ n ∧ n ≤ 30) ∧ (¬ tI t 0 9 = 0) ∧ (CkP (pcX t 12) (mtX t 12) (tA t 44) (tI t 0 8) (2 * (min n (9999 - tI t 12 13))) z)))) := by
  refine CI_ent (d := d + 5) (Bk := bX8_check) (nL := 4) rfl rfl rfl (Nat.le_of_ble_eq_true rfl) ?_
  show Rn _ 1000000 0 [some (.ref 0), some (.int (jI n)), none, none] [] _ _
  have fr : Fr [(0, 8), (24, 10), (24, 11), (24, 12), (24, 13), (24, 14), (25, 100), (26, 100), (27, 100), (28, 100), (29, 100), (30, 100), (31, 100), (32, 100), (34, 100), (33, 101)] t t := Fr.rf _ _
  have hn0 := (ok.f fe_1_10).1
  have hn1 := (ok.f fe_1_10).2
  refine w_step rfl ?_
  refine w_aload rfl ?_
  refine w_getI (g_0_8 _) fe_0_8 ok (fun z1 hz1 hl1 hh1 => ?_)
  have ew8 := hz1
  refine w_istore (lv' := [some (.ref 0), some (.int (jI n)), some (.int (jI z1)), none]) rfl ?_
  refine w_aload rfl ?_
  refine w_push kc_0 ?_
  refine w_putI (p_0_8 _) fe_0_8 ok (by omega) (fun t2 ht2 ok2 => ?_)
  have fr2 := fr.uI ht2 (by simp)
  have e0 : tI t2 0 8 = 0 := by rw [ht2, tI_uI, if_pos ⟨rfl, rfl⟩]
  have ed : tI t2 12 13 = tI t 12 13 := by rw [ht2, tI_uI, if_neg (by decide)]
  have fr8 := fr2
  refine w_iload rfl ?_
  refine w_push kc_1 ?_
  refine w_push kc_30 ?_
  refine w_callS3I rfl (c_X8_within ok2 (by omega) (by omega) (by omega) (by omega) (by omega) (by omega)) ?_
  rintro z3 t3 ⟨rfl, hp3_0⟩
  rcases hp3_0 with ⟨rfl, hp3_0⟩ | ⟨rfl, hp3_0⟩
  · skip
    refine w_ine (by omega) (fun h => absurd h (by omega)) (fun _ => ?_)
    refine w_push kc_m1000000001 ?_
    refine w_retI rfl ?_
    exact ⟨ok2, fr2, e0, (by first | (exact Or.inl ⟨by omega, by first | omega | (subst_vars; rfl)⟩) | (exact Or.inr (Or.inl ⟨by omega, by omega, by first | omega | (subst_vars; rfl)⟩)) | (exact Or.inr (Or.inr (⟨by omega, by omega, by rw [← ew8, ← edd]; first | (rw [if_pos (by omega)] at ck; exact ck) | (rw [if_neg (by omega)] at ck; exact ck)⟩))))⟩
  refine w_ine (by omega) (fun _ => ?_) (fun h => absurd (by omega) h)
  refine w_step rfl ?_
  refine w_aload rfl ?_
  refine w_getI (g_0_9 _) fe_0_9 ok2 (fun z4 hz4 hl4 hh4 => ?_)
  have e9 : z4 = tI t 0 9 := by rw [hz4, fr8.1 0 9 (by simp)]
  refine w_ine (by omega) (fun h5 => ?_) (fun h5 => ?_)
  · skip
    refine w_step rfl ?_
    refine w_aload rfl ?_
    refine w_getR (g_0_2 _) ?_
    refine w_aload rfl ?_
    refine w_getR (g_0_1 _) ?_
    refine w_iload rfl ?_
    refine w_push kc_9999 ?_
    refine w_aload rfl ?_
    refine w_getR (g_0_1 _) ?_
    refine w_getI (g_12_13 _) fe_12_13 ok2 (fun z6 hz6 hl6 hh6 => ?_)
    have edd : z6 = tI t 12 13 := by rw [hz6]; exact ed
    refine w_sub ?_
    refine w_min rfl (by omega) ?_
    refine w_aload rfl ?_
    refine w_getR (g_0_7 _) ?_
    refine w_iload rfl ?_
    refine w_callV4I (oj_23 _).choose_spec rfl (e_X7_rightAhead ok2 (ck_h (q0 (by omega)) fr8 (by simp) (by simp) (by simp)) (by omega) (by omega) (by omega) (by omega)) ?_
    rintro z7 t7 ⟨ok7, fq7, hp7_0, hp7_1, hp7_2⟩
    have fr7 := fr2.then fq7 (by simp)
    have e0 := (fq7.1 0 8 (by simp)).trans e0
    have ck := ck_c fr8 hp7_2 (by simp) (by simp) (by simp) (by simp) (by simp) (by simp) (by simp) (by simp) (by simp) (by simp)
    refine w_istore (lv' := [some (.ref 0), some (.int (jI n)), some (.int (jI z1)), some (.int (jI z7))]) rfl ?_
    refine w_iload rfl ?_
    refine w_push kc_m1 ?_
    refine w_cne (by omega) (fun h8 => ?_) (fun h8 => ?_)
    · skip
      refine w_step rfl ?_
      refine w_push kc_1 ?_
      refine w_iload rfl ?_
      refine w_add ?_
      refine w_goto ?_
      refine w_step rfl ?_
      refine w_retI rfl ?_
      exact ⟨ok7, fr7, e0, (by first | (exact Or.inl ⟨by omega, by first | omega | (subst_vars; rfl)⟩) | (exact Or.inr (Or.inl ⟨by omega, by omega, by first | omega | (subst_vars; rfl)⟩)) | (exact Or.inr (Or.inr (⟨by omega, by omega, by rw [← ew8, ← edd]; first | (rw [if_pos (by omega)] at ck; exact ck) | (rw [if_neg (by omega)] at ck; exact ck)⟩))))⟩
    refine w_push kc_0 ?_
    refine w_goto ?_
    refine w_step rfl ?_
    refine w_retI rfl ?_
    exact ⟨ok7, fr7, e0, (by first | (exact Or.inl ⟨by omega, by first | omega | (subst_vars; rfl)⟩) | (exact Or.inr (Or.inl ⟨by omega, by omega, by first | omega | (subst_vars; rfl)⟩)) | (exact Or.inr (Or.inr (⟨by omega, by omega, by rw [← ew8, ← edd]; first | (rw [if_pos (by omega)] at ck; exact ck) | (rw [if_neg (by omega)] at ck; exact ck)⟩))))⟩
  refine w_push kc_m1000000002 ?_
  refine w_retI rfl ?_
  exact ⟨ok2, fr2, e0, (by first | (exact Or.inl ⟨by omega, by first | omega | (subst_vars; rfl)⟩) | (exact Or.inr (Or.inl ⟨by omega, by omega, by first | omega | (subst_vars; rfl)⟩)) | (exact Or.inr (Or.inr (⟨by omega, by omega, by rw [← ew8, ← edd]; first | (rw [if_pos (by omega)] at ck; exact ck) | (rw [if_neg (by omega)] at ck; exact ck)⟩))))⟩
set_option maxRecDepth 100000 in
set_option maxHeartbeats 4000000 in
theorem e_X8_count {d : Nat} {t : TS} {w : Int}  (ok : OK t) (q0 : HCt t 1) (q1 : -2147483648 ≤ w) (q2 : w ≤ 2147483647) : CI (EX FU (d + 3)) 118 [.ref 0, .int (jI w)] (mk t) (fun z t' => t = t' ∧ (((w = 0) ∧ z = tI t 1 10) ∨ ((w = 1) ∧ z = tI t 1 13) ∨ ((w = 2) ∧ z = tI t 1 12) ∨ ((w = 3) ∧ z = tI t 1 10 - cnX t 1 0) ∨ ((w = 4) ∧ z = tI t 1 11) ∨ ((w = 5) ∧ z = tI t 0 8) ∨ ((w = 6) ∧ z = tI t 37 1) ∨ ((w = 7) ∧ z = tI t 1 14) ∨ ((¬ (0 ≤ w ∧ w ≤ 7)) ∧ z = (-1000000001)))) := by
  refine CI_ent (d := d + 2) (Bk := bX8_count) (nL := 2) rfl rfl rfl (Nat.le_of_ble_eq_true rfl) ?_
  show Rn _ 1000000 0 [some (.ref 0), some (.int (jI w))] [] _ _
  have hn0 := (ok.f fe_1_10).1
  have hn1 := (ok.f fe_1_10).2
  refine w_step rfl ?_
  refine w_iload rfl ?_
  have hs1 : w = 0 ∨ w = 1 ∨ w = 2 ∨ w = 3 ∨ w = 4 ∨ w = 5 ∨ w = 6 ∨ w = 7 ∨ (w < 0 ∨ 0 + 8 ≤ w) := (by omega)
  rcases hs1 with hs1 | hs1 | hs1 | hs1 | hs1 | hs1 | hs1 | hs1 | hs1
  · refine w_sw (n := 1) (tsw_at hs1 (by decide)) ?_
    refine w_step rfl ?_
    refine w_aload rfl ?_
    refine w_getR (g_0_0 _) ?_
    refine w_getI (g_1_10 _) fe_1_10 ok (fun z2 hz2 hl2 hh2 => ?_)
    refine w_retI rfl ?_
    exact ⟨rfl, (by first | (exact Or.inl ⟨by omega, by omega⟩) | (exact Or.inr (Or.inl ⟨by omega, by omega⟩)) | (exact Or.inr (Or.inr (Or.inl ⟨by omega, by omega⟩))) | (exact Or.inr (Or.inr (Or.inr (Or.inl ⟨by omega, by omega⟩)))) | (exact Or.inr (Or.inr (Or.inr (Or.inr (Or.inl ⟨by omega, by omega⟩))))) | (exact Or.inr (Or.inr (Or.inr (Or.inr (Or.inr (Or.inl ⟨by omega, by omega⟩)))))) | (exact Or.inr (Or.inr (Or.inr (Or.inr (Or.inr (Or.inr (Or.inl ⟨by omega, by omega⟩))))))) | (exact Or.inr (Or.inr (Or.inr (Or.inr (Or.inr (Or.inr (Or.inr (Or.inl ⟨by omega, by omega⟩)))))))) | (exact Or.inr (Or.inr (Or.inr (Or.inr (Or.inr (Or.inr (Or.inr (Or.inr (⟨by omega, by first | omega | (subst_vars; rfl)⟩))))))))))⟩
  · refine w_sw (n := 2) (tsw_at hs1 (by decide)) ?_
    refine w_step rfl ?_
    refine w_aload rfl ?_
    refine w_getR (g_0_0 _) ?_
    refine w_getI (g_1_13 _) fe_1_13 ok (fun z3 hz3 hl3 hh3 => ?_)
    refine w_retI rfl ?_
    exact ⟨rfl, (by first | (exact Or.inl ⟨by omega, by omega⟩) | (exact Or.inr (Or.inl ⟨by omega, by omega⟩)) | (exact Or.inr (Or.inr (Or.inl ⟨by omega, by omega⟩))) | (exact Or.inr (Or.inr (Or.inr (Or.inl ⟨by omega, by omega⟩)))) | (exact Or.inr (Or.inr (Or.inr (Or.inr (Or.inl ⟨by omega, by omega⟩))))) | (exact Or.inr (Or.inr (Or.inr (Or.inr (Or.inr (Or.inl ⟨by omega, by omega⟩)))))) | (exact Or.inr (Or.inr (Or.inr (Or.inr (Or.inr (Or.inr (Or.inl ⟨by omega, by omega⟩))))))) | (exact Or.inr (Or.inr (Or.inr (Or.inr (Or.inr (Or.inr (Or.inr (Or.inl ⟨by omega, by omega⟩)))))))) | (exact Or.inr (Or.inr (Or.inr (Or.inr (Or.inr (Or.inr (Or.inr (Or.inr (⟨by omega, by first | omega | (subst_vars; rfl)⟩))))))))))⟩
  · refine w_sw (n := 3) (tsw_at hs1 (by decide)) ?_
    refine w_step rfl ?_
    refine w_aload rfl ?_
    refine w_getR (g_0_0 _) ?_
    refine w_getI (g_1_12 _) fe_1_12 ok (fun z4 hz4 hl4 hh4 => ?_)
    refine w_retI rfl ?_
    exact ⟨rfl, (by first | (exact Or.inl ⟨by omega, by omega⟩) | (exact Or.inr (Or.inl ⟨by omega, by omega⟩)) | (exact Or.inr (Or.inr (Or.inl ⟨by omega, by omega⟩))) | (exact Or.inr (Or.inr (Or.inr (Or.inl ⟨by omega, by omega⟩)))) | (exact Or.inr (Or.inr (Or.inr (Or.inr (Or.inl ⟨by omega, by omega⟩))))) | (exact Or.inr (Or.inr (Or.inr (Or.inr (Or.inr (Or.inl ⟨by omega, by omega⟩)))))) | (exact Or.inr (Or.inr (Or.inr (Or.inr (Or.inr (Or.inr (Or.inl ⟨by omega, by omega⟩))))))) | (exact Or.inr (Or.inr (Or.inr (Or.inr (Or.inr (Or.inr (Or.inr (Or.inl ⟨by omega, by omega⟩)))))))) | (exact Or.inr (Or.inr (Or.inr (Or.inr (Or.inr (Or.inr (Or.inr (Or.inr (⟨by omega, by first | omega | (subst_vars; rfl)⟩))))))))))⟩
  · refine w_sw (n := 4) (tsw_at hs1 (by decide)) ?_
    refine w_step rfl ?_
    refine w_aload rfl ?_
    refine w_getR (g_0_0 _) ?_
    refine w_getI (g_1_10 _) fe_1_10 ok (fun z5 hz5 hl5 hh5 => ?_)
    refine w_aload rfl ?_
    refine w_getR (g_0_0 _) ?_
    refine w_callV0I (oj_1 _).choose_spec rfl (e_X4_laidStones isT1 ok) ?_
    rintro z6 t6 ⟨rfl, hp6_0, hp6_1, hp6_2⟩
    have ecn : z6 = cnX t 1 0 := by rw [hp6_0]; exact cnC q0
    have ecr := cn_r (tA t 7) 12
    refine w_sub ?_
    refine w_retI rfl ?_
    exact ⟨rfl, (by first | (exact Or.inl ⟨by omega, by omega⟩) | (exact Or.inr (Or.inl ⟨by omega, by omega⟩)) | (exact Or.inr (Or.inr (Or.inl ⟨by omega, by omega⟩))) | (exact Or.inr (Or.inr (Or.inr (Or.inl ⟨by omega, by omega⟩)))) | (exact Or.inr (Or.inr (Or.inr (Or.inr (Or.inl ⟨by omega, by omega⟩))))) | (exact Or.inr (Or.inr (Or.inr (Or.inr (Or.inr (Or.inl ⟨by omega, by omega⟩)))))) | (exact Or.inr (Or.inr (Or.inr (Or.inr (Or.inr (Or.inr (Or.inl ⟨by omega, by omega⟩))))))) | (exact Or.inr (Or.inr (Or.inr (Or.inr (Or.inr (Or.inr (Or.inr (Or.inl ⟨by omega, by omega⟩)))))))) | (exact Or.inr (Or.inr (Or.inr (Or.inr (Or.inr (Or.inr (Or.inr (Or.inr (⟨by omega, by first | omega | (subst_vars; rfl)⟩))))))))))⟩
  · refine w_sw (n := 5) (tsw_at hs1 (by decide)) ?_
    refine w_step rfl ?_
    refine w_aload rfl ?_
    refine w_getR (g_0_0 _) ?_
    refine w_getI (g_1_11 _) fe_1_11 ok (fun z7 hz7 hl7 hh7 => ?_)
    refine w_retI rfl ?_
    exact ⟨rfl, (by first | (exact Or.inl ⟨by omega, by omega⟩) | (exact Or.inr (Or.inl ⟨by omega, by omega⟩)) | (exact Or.inr (Or.inr (Or.inl ⟨by omega, by omega⟩))) | (exact Or.inr (Or.inr (Or.inr (Or.inl ⟨by omega, by omega⟩)))) | (exact Or.inr (Or.inr (Or.inr (Or.inr (Or.inl ⟨by omega, by omega⟩))))) | (exact Or.inr (Or.inr (Or.inr (Or.inr (Or.inr (Or.inl ⟨by omega, by omega⟩)))))) | (exact Or.inr (Or.inr (Or.inr (Or.inr (Or.inr (Or.inr (Or.inl ⟨by omega, by omega⟩))))))) | (exact Or.inr (Or.inr (Or.inr (Or.inr (Or.inr (Or.inr (Or.inr (Or.inl ⟨by omega, by omega⟩)))))))) | (exact Or.inr (Or.inr (Or.inr (Or.inr (Or.inr (Or.inr (Or.inr (Or.inr (⟨by omega, by first | omega | (subst_vars; rfl)⟩))))))))))⟩
  · refine w_sw (n := 6) (tsw_at hs1 (by decide)) ?_
    refine w_step rfl ?_
    refine w_aload rfl ?_
    refine w_getI (g_0_8 _) fe_0_8 ok (fun z8 hz8 hl8 hh8 => ?_)
    refine w_retI rfl ?_
    exact ⟨rfl, (by first | (exact Or.inl ⟨by omega, by omega⟩) | (exact Or.inr (Or.inl ⟨by omega, by omega⟩)) | (exact Or.inr (Or.inr (Or.inl ⟨by omega, by omega⟩))) | (exact Or.inr (Or.inr (Or.inr (Or.inl ⟨by omega, by omega⟩)))) | (exact Or.inr (Or.inr (Or.inr (Or.inr (Or.inl ⟨by omega, by omega⟩))))) | (exact Or.inr (Or.inr (Or.inr (Or.inr (Or.inr (Or.inl ⟨by omega, by omega⟩)))))) | (exact Or.inr (Or.inr (Or.inr (Or.inr (Or.inr (Or.inr (Or.inl ⟨by omega, by omega⟩))))))) | (exact Or.inr (Or.inr (Or.inr (Or.inr (Or.inr (Or.inr (Or.inr (Or.inl ⟨by omega, by omega⟩)))))))) | (exact Or.inr (Or.inr (Or.inr (Or.inr (Or.inr (Or.inr (Or.inr (Or.inr (⟨by omega, by first | omega | (subst_vars; rfl)⟩))))))))))⟩
  · refine w_sw (n := 7) (tsw_at hs1 (by decide)) ?_
    refine w_step rfl ?_
    refine w_aload rfl ?_
    refine w_getR (g_0_3 _) ?_
    refine w_getI (g_37_1 _) fe_37_1 ok (fun z9 hz9 hl9 hh9 => ?_)
    refine w_retI rfl ?_
    exact ⟨rfl, (by first | (exact Or.inl ⟨by omega, by omega⟩) | (exact Or.inr (Or.inl ⟨by omega, by omega⟩)) | (exact Or.inr (Or.inr (Or.inl ⟨by omega, by omega⟩))) | (exact Or.inr (Or.inr (Or.inr (Or.inl ⟨by omega, by omega⟩)))) | (exact Or.inr (Or.inr (Or.inr (Or.inr (Or.inl ⟨by omega, by omega⟩))))) | (exact Or.inr (Or.inr (Or.inr (Or.inr (Or.inr (Or.inl ⟨by omega, by omega⟩)))))) | (exact Or.inr (Or.inr (Or.inr (Or.inr (Or.inr (Or.inr (Or.inl ⟨by omega, by omega⟩))))))) | (exact Or.inr (Or.inr (Or.inr (Or.inr (Or.inr (Or.inr (Or.inr (Or.inl ⟨by omega, by omega⟩)))))))) | (exact Or.inr (Or.inr (Or.inr (Or.inr (Or.inr (Or.inr (Or.inr (Or.inr (⟨by omega, by first | omega | (subst_vars; rfl)⟩))))))))))⟩
  · refine w_sw (n := 8) (tsw_at hs1 (by decide)) ?_
    refine w_step rfl ?_
    refine w_aload rfl ?_
    refine w_getR (g_0_0 _) ?_
    refine w_getI (g_1_14 _) fe_1_14 ok (fun z10 hz10 hl10 hh10 => ?_)
    refine w_retI rfl ?_
    exact ⟨rfl, (by first | (exact Or.inl ⟨by omega, by omega⟩) | (exact Or.inr (Or.inl ⟨by omega, by omega⟩)) | (exact Or.inr (Or.inr (Or.inl ⟨by omega, by omega⟩))) | (exact Or.inr (Or.inr (Or.inr (Or.inl ⟨by omega, by omega⟩)))) | (exact Or.inr (Or.inr (Or.inr (Or.inr (Or.inl ⟨by omega, by omega⟩))))) | (exact Or.inr (Or.inr (Or.inr (Or.inr (Or.inr (Or.inl ⟨by omega, by omega⟩)))))) | (exact Or.inr (Or.inr (Or.inr (Or.inr (Or.inr (Or.inr (Or.inl ⟨by omega, by omega⟩))))))) | (exact Or.inr (Or.inr (Or.inr (Or.inr (Or.inr (Or.inr (Or.inr (Or.inl ⟨by omega, by omega⟩)))))))) | (exact Or.inr (Or.inr (Or.inr (Or.inr (Or.inr (Or.inr (Or.inr (Or.inr (⟨by omega, by first | omega | (subst_vars; rfl)⟩))))))))))⟩
  · refine w_sw (n := 9) (tsw_df (m := 8) rfl (by omega) (by omega)) ?_
    refine w_step rfl ?_
    refine w_push kc_m1000000001 ?_
    refine w_retI rfl ?_
    exact ⟨rfl, (by first | (exact Or.inl ⟨by omega, by omega⟩) | (exact Or.inr (Or.inl ⟨by omega, by omega⟩)) | (exact Or.inr (Or.inr (Or.inl ⟨by omega, by omega⟩))) | (exact Or.inr (Or.inr (Or.inr (Or.inl ⟨by omega, by omega⟩)))) | (exact Or.inr (Or.inr (Or.inr (Or.inr (Or.inl ⟨by omega, by omega⟩))))) | (exact Or.inr (Or.inr (Or.inr (Or.inr (Or.inr (Or.inl ⟨by omega, by omega⟩)))))) | (exact Or.inr (Or.inr (Or.inr (Or.inr (Or.inr (Or.inr (Or.inl ⟨by omega, by omega⟩))))))) | (exact Or.inr (Or.inr (Or.inr (Or.inr (Or.inr (Or.inr (Or.inr (Or.inl ⟨by omega, by omega⟩)))))))) | (exact Or.inr (Or.inr (Or.inr (Or.inr (Or.inr (Or.inr (Or.inr (Or.inr (⟨by omega, by first | omega | (subst_vars; rfl)⟩))))))))))⟩
