theorem comes_f {t u : TS} {c : Nat} {v : Int} (hc : 32 ≤ c ∧ c ≤ 33) (h0 : tA u 69 (c + 5 * (tA t 69 1).toNat) = v) (h1 : ∀ i, ¬ i = 1 → (i < 29 + 5 * (tA t 69 1).toNat ∨ 34 + 5 * (tA t 69 1).toNat ≤ i) → tA u 69 i = tA t 69 i) : ∀ m : Nat, tA u 69 (c + 5 * m) = if m = (tA t 69 1).toNat then v else tA t 69 (c + 5 * m) := by
  intro m
  by_cases e : m = (tA t 69 1).toNat
  · rw [if_pos e, e, h0]
  · rw [if_neg e]
    exact h1 _ (by omega) (by omega)
theorem gr_ca {t u : TS} {k : Nat} (h : tI t 68 4 = -1) (g : GRp t u (dysF (tA t 69 1).toNat (OA t 69) (tA t 69 3) (tA t 69 0) k (RPt t))) : caF (AA u 69) (tA u 69 1).toNat = caA t 69 k := by
  obtain ⟨g1, g2, g3, g4, g5⟩ := g
  rw [RPt_no (g5.trans h), RPt_no h] at g1
  have e : AA u 69 = (xA t 69 k).1 := by
    show (RPc u 69).1 = _
    rw [g1]
    rfl
  rw [e, g4]
  rfl
set_option maxRecDepth 100000 in
set_option maxHeartbeats 4000000 in
theorem e_X9_putsBack {d : Nat} {t : TS}  (ok : OK t) : CV (EX FU (d + 1)) 177 [.ref 68] (mk t) (fun t' => OK t' ∧ Fr [(69, 100), (68, 4)] t t' ∧ (∀ i : Nat, i < 89 → tA t' 69 i = tA t 74 i) ∧ (∀ i : Nat, 89 ≤ i → tA t' 69 i = tA t 69 i) ∧ (tI t' 68 4 = -1)) := by
  refine CV_ent (d := d + 0) (Bk := bX9_putsBack) (nL := 2) rfl rfl rfl (Nat.le_of_ble_eq_true rfl) ?_
  show Rn _ 1000000 0 [some (.ref 68), none] [] _ _
  have fr : Fr [(69, 100), (68, 4)] t t := Fr.rf _ _
  have hn0 := (ok.a (ax_69 nr_1)).1
  have hn1 := (ok.a (ax_69 nr_1)).2
  refine w_step rfl ?_
  refine w_push kc_0 ?_
  refine w_istore (lv' := [some (.ref 68), some (.int (jI 0))]) rfl ?_
  refine w_goto ?_
  have key1 : ∀ (n1 M1 : Nat) (i : Int) (t1 : TS), OK t1 → Fr [(69, 100), (68, 4)] t t1 → (0 ≤ i) → (i ≤ 89) → (∀ m : Nat, (m : Int) < i → tA t1 69 m = tA t 74 m) → (∀ m : Nat, 89 ≤ m → tA t1 69 m = tA t 69 m) → 89 - i < (n1 : Int) → 60 * n1 + (1000) ≤ M1 → Rn (bX9_putsBack (EX FU (d + 0))) M1 1 [some (.ref 68), some (.int (jI i))] [] (mk t1) (PV (fun t' => OK t' ∧ Fr [(69, 100), (68, 4)] t t' ∧ (∀ i : Nat, i < 89 → tA t' 69 i = tA t 74 i) ∧ (∀ i : Nat, 89 ≤ i → tA t' 69 i = tA t 69 i) ∧ (tI t' 68 4 = -1))) := by
    intro n1
    induction n1 with
    | zero => intro M1 i t1 ok1 fr1 i1_0 i1_1 i1_2 i1_3 v1 f1; exfalso; omega
    | succ n1 ih1 =>
      intro M1 i t1 ok1 fr1 i1_0 i1_1 i1_2 i1_3 v1 f1
      obtain ⟨M1, rfl⟩ : ∃ m, M1 = m + 60 := ⟨M1 - 60, by omega⟩
      have ea : ∀ m, tA t1 74 m = tA t 74 m := fun m => fr1.2.1 74 (by simp) m
      refine w_step rfl ?_
      refine w_iload rfl ?_
      refine w_push kc_89 ?_
      refine w_cge (by omega) (fun h2 => ?_) (fun h2 => ?_)
      · skip
        refine w_step rfl ?_
        refine w_aload rfl ?_
        refine w_push kc_m1 ?_
        refine w_putI (p_68_4 _) fe_68_4 ok1 (by omega) (fun t3 ht3 ok3 => ?_)
        have fr3 := fr1.uI ht3 (by simp)
        have eK := ht3
        refine w_retV ?_
        exact ⟨ok3, fr3, (by intro i hi; rw [eK, tA_uI]; exact i1_2 i (by omega)), (by intro i hi; rw [eK, tA_uI]; exact i1_3 i hi), (by rw [eK, tI_uI, if_pos ⟨rfl, rfl⟩])⟩
      refine w_aload rfl ?_
      refine w_getR (g_68_0 _) ?_
      refine w_iload rfl ?_
      refine w_aload rfl ?_
      refine w_getR (g_68_7 _) ?_
      refine w_iload rfl ?_
      refine w_iald (i := (i).toNat) (ai_74 _) (by omega) (by omega) (ae_74 _) ok1 (fun z4 hz4 hl4 hh4 => ?_)
      have hj4 := nr_jr (i).toNat
      refine w_iast (i := (i).toNat) (ai_69 _) rfl (by omega) (by omega) (ae_69 _) ok1 (by omega) (fun t5 ht5 ok5 => ?_)
      have fr5 := fr1.uA ht5 (by simp)
      refine w_iinc (lv' := [some (.ref 68), some (.int (jI (i + 1)))]) kc_1 rfl rfl ?_
      refine w_goto ?_
      exact ih1 _ (i + 1) t5 ok5 fr5 (by omega) (by omega) (by intro m hm; rw [ht5, tA_uA]; split <;> first | exact i1_2 m (by omega) | (rename_i q; rw [q.2, hz4]; exact ea _)) (by intro m hm; rw [ht5, tA_uA, if_neg (by omega)]; exact i1_3 m hm) (by omega) (by omega)
  exact key1 90 _ 0 t ok fr (by omega) (by omega) (by intro m hm; omega) (fun _ _ => rfl) (by omega) (by omega)
set_option maxRecDepth 100000 in
set_option maxHeartbeats 4000000 in
theorem e_X9_comes {d : Nat} {t : TS} {k l r : Int}  (ok : OK t) (q0 : 0 ≤ k) (q1 : k ≤ 5) (q2 : 0 ≤ l) (q3 : l ≤ 6) (q4 : 0 ≤ r) (q5 : r ≤ 6) (q6 : tA t 69 1 ≤ 11) : CI (EX FU (d + 1)) 137 [.ref 68, .int (jI k), .int (jI l), .int (jI r)] (mk t) (fun z t' => OK t' ∧ Fr [(69, 100)] t t' ∧ (z = tA t 69 1) ∧ (tA t' 69 1 = tA t 69 1 + 1) ∧ (tA t' 69 (29 + 5 * (tA t 69 1).toNat) = k) ∧ (tA t' 69 (30 + 5 * (tA t 69 1).toNat) = l) ∧ (tA t' 69 (31 + 5 * (tA t 69 1).toNat) = r) ∧ (∀ i, ¬ i = 1 → (i < 29 + 5 * (tA t 69 1).toNat ∨ 34 + 5 * (tA t 69 1).toNat ≤ i) → tA t' 69 i = tA t 69 i) ∧ (tA t' 69 (32 + 5 * (tA t 69 1).toNat) = 12) ∧ (tA t' 69 (33 + 5 * (tA t 69 1).toNat) = 0)) := by
  refine CI_ent (d := d + 0) (Bk := bX9_comes) (nL := 6) rfl rfl rfl (Nat.le_of_ble_eq_true rfl) ?_
  show Rn _ 1000000 0 [some (.ref 68), some (.int (jI k)), some (.int (jI l)), some (.int (jI r)), none, none] [] _ _
  have fr : Fr [(69, 100)] t t := Fr.rf _ _
  have hn0 := (ok.a (ax_69 nr_1)).1
  have hn1 := (ok.a (ax_69 nr_1)).2
  refine w_step rfl ?_
  refine w_aload rfl ?_
  refine w_getR (g_68_0 _) ?_
  refine w_push kc_1 ?_
  refine w_iald (i := 1) (ai_69 _) (by omega) (by omega) (ax_69 nr_1) ok (fun z1 hz1 hl1 hh1 => ?_)
  have en := hz1
  refine w_istore (lv' := [some (.ref 68), some (.int (jI k)), some (.int (jI l)), some (.int (jI r)), some (.int (jI z1)), none]) rfl ?_
  refine w_push kc_29 ?_
  refine w_push kc_5 ?_
  refine w_iload rfl ?_
  refine w_mul ?_
  refine w_add ?_
  refine w_istore (lv' := [some (.ref 68), some (.int (jI k)), some (.int (jI l)), some (.int (jI r)), some (.int (jI z1)), some (.int (jI (29 + (5 * z1))))]) rfl ?_
  refine w_aload rfl ?_
  refine w_getR (g_68_0 _) ?_
  refine w_iload rfl ?_
  refine w_iload rfl ?_
  refine w_iast (i := ((29 + (5 * z1))).toNat) (ai_69 _) rfl (by omega) (by omega) (ax_69 (nr_S0 (s := z1.toNat) (by omega))) ok (by omega) (fun t2 ht2 ok2 => ?_)
  have fr2 := fr.uA ht2 (by simp)
  have w1 := ht2
  refine w_aload rfl ?_
  refine w_getR (g_68_0 _) ?_
  refine w_iload rfl ?_
  refine w_push kc_1 ?_
  refine w_add ?_
  refine w_iload rfl ?_
  refine w_iast (i := (((29 + (5 * z1)) + 1)).toNat) (ai_69 _) rfl (by omega) (by omega) (ax_69 (nr_S1 (s := z1.toNat) (by omega))) ok2 (by omega) (fun t3 ht3 ok3 => ?_)
  have fr3 := fr2.uA ht3 (by simp)
  have w2 := ht3
  refine w_aload rfl ?_
  refine w_getR (g_68_0 _) ?_
  refine w_iload rfl ?_
  refine w_push kc_2 ?_
  refine w_add ?_
  refine w_iload rfl ?_
  refine w_iast (i := (((29 + (5 * z1)) + 2)).toNat) (ai_69 _) rfl (by omega) (by omega) (ax_69 (nr_S2 (s := z1.toNat) (by omega))) ok3 (by omega) (fun t4 ht4 ok4 => ?_)
  have fr4 := fr3.uA ht4 (by simp)
  have w3 := ht4
  refine w_aload rfl ?_
  refine w_getR (g_68_0 _) ?_
  refine w_iload rfl ?_
  refine w_push kc_3 ?_
  refine w_add ?_
  refine w_push kc_12 ?_
  refine w_iast (i := (((29 + (5 * z1)) + 3)).toNat) (ai_69 _) rfl (by omega) (by omega) (ax_69 (nr_S3 (s := z1.toNat) (by omega))) ok4 (by omega) (fun t5 ht5 ok5 => ?_)
  have fr5 := fr4.uA ht5 (by simp)
  have w4 := ht5
  refine w_aload rfl ?_
  refine w_getR (g_68_0 _) ?_
  refine w_iload rfl ?_
  refine w_push kc_4 ?_
  refine w_add ?_
  refine w_push kc_0 ?_
  refine w_iast (i := (((29 + (5 * z1)) + 4)).toNat) (ai_69 _) rfl (by omega) (by omega) (ax_69 (nr_S4 (s := z1.toNat) (by omega))) ok5 (by omega) (fun t6 ht6 ok6 => ?_)
  have fr6 := fr5.uA ht6 (by simp)
  have w5 := ht6
  have e5 : tA t6 69 1 = tA t 69 1 := by rw [w5, tA_uA, if_neg (by omega), w4, tA_uA, if_neg (by omega), w3, tA_uA, if_neg (by omega), w2, tA_uA, if_neg (by omega), w1, tA_uA, if_neg (by omega)]
  refine w_aload rfl ?_
  refine w_getR (g_68_0 _) ?_
  refine w_push kc_1 ?_
  refine w_dup2 ?_
  refine w_iald (i := 1) (ai_69 _) (by omega) (by omega) (ax_69 nr_1) ok6 (fun z7 hz7 hl7 hh7 => ?_)
  refine w_push kc_1 ?_
  refine w_add ?_
  refine w_iast (i := 1) (ai_69 _) rfl (by omega) (by omega) (ax_69 nr_1) ok6 (by omega) (fun t8 ht8 ok8 => ?_)
  have fr8 := fr6.uA ht8 (by simp)
  have w6 := ht8
  refine w_iload rfl ?_
  refine w_retI rfl ?_
  exact ⟨ok8, fr8, (by omega), (by rw [w6, tA_uA, if_pos ⟨rfl, rfl⟩]; omega), (by rw [w6, tA_uA, if_neg (by omega), w5, tA_uA, if_neg (by omega), w4, tA_uA, if_neg (by omega), w3, tA_uA, if_neg (by omega), w2, tA_uA, if_neg (by omega), w1, tA_uA, if_pos (by omega)]), (by rw [w6, tA_uA, if_neg (by omega), w5, tA_uA, if_neg (by omega), w4, tA_uA, if_neg (by omega), w3, tA_uA, if_neg (by omega), w2, tA_uA, if_pos (by omega)]), (by rw [w6, tA_uA, if_neg (by omega), w5, tA_uA, if_neg (by omega), w4, tA_uA, if_neg (by omega), w3, tA_uA, if_pos (by omega)]), (by intro i h1 h2; rw [w6, tA_uA, if_neg (by omega), w5, tA_uA, if_neg (by omega), w4, tA_uA, if_neg (by omega), w3, tA_uA, if_neg (by omega), w2, tA_uA, if_neg (by omega), w1, tA_uA, if_neg (by omega)]), (by rw [w6, tA_uA, if_neg (by omega), w5, tA_uA, if_neg (by omega), w4, tA_uA, if_pos (by omega)]), (by rw [w6, tA_uA, if_neg (by omega), w5, tA_uA, if_pos (by omega)])⟩
set_option maxRecDepth 100000 in
set_option maxHeartbeats 4000000 in
theorem e_X9_stone {d : Nat} {t : TS} {k l r : Int}  (ok : OK t) (q0 : -2147483648 ≤ k) (q1 : k ≤ 2147483647) (q2 : -2147483648 ≤ l) (q3 : l ≤ 2147483647) (q4 : -2147483648 ≤ r) (q5 : r ≤ 2147483647) : CI (EX FU (d + 2)) 138 [.ref 68, .int (jI k), .int (jI l), .int (jI r)] (mk t) (fun z t' => OK t' ∧ Fr [(69, 100)] t t' ∧ (((¬ (0 ≤ k ∧ k ≤ 5 ∧ 0 ≤ l ∧ l ≤ 6 ∧ 0 ≤ r ∧ r ≤ 6)) ∧ z = (-1000000001) ∧ t' = t) ∨ ((0 ≤ k ∧ k ≤ 5 ∧ 0 ≤ l ∧ l ≤ 6 ∧ 0 ≤ r ∧ r ≤ 6) ∧ (tA t 69 1 = 12) ∧ z = (-1000000003) ∧ t' = t) ∨ ((0 ≤ k ∧ k ≤ 5 ∧ 0 ≤ l ∧ l ≤ 6 ∧ 0 ≤ r ∧ r ≤ 6) ∧ (tA t 69 1 < 12) ∧ z = tA t 69 1 ∧ (tA t' 69 1 = tA t 69 1 + 1) ∧ (tA t' 69 (29 + 5 * (tA t 69 1).toNat) = k) ∧ (tA t' 69 (30 + 5 * (tA t 69 1).toNat) = l) ∧ (tA t' 69 (31 + 5 * (tA t 69 1).toNat) = r) ∧ (∀ i, ¬ i = 1 → (i < 29 + 5 * (tA t 69 1).toNat ∨ 34 + 5 * (tA t 69 1).toNat ≤ i) → tA t' 69 i = tA t 69 i) ∧ (tA t' 69 (32 + 5 * (tA t 69 1).toNat) = 12) ∧ (tA t' 69 (33 + 5 * (tA t 69 1).toNat) = 0)))) := by
  refine CI_ent (d := d + 1) (Bk := bX9_stone) (nL := 4) rfl rfl rfl (Nat.le_of_ble_eq_true rfl) ?_
  show Rn _ 1000000 0 [some (.ref 68), some (.int (jI k)), some (.int (jI l)), some (.int (jI r))] [] _ _
  have fr : Fr [(69, 100)] t t := Fr.rf _ _
  have hn0 := (ok.a (ax_69 nr_1)).1
  have hn1 := (ok.a (ax_69 nr_1)).2
  refine w_step rfl ?_
  refine w_iload rfl ?_
  refine w_push kc_0 ?_
  refine w_push kc_5 ?_
  refine w_callS3I rfl (c_X9_in ok (by omega) (by omega) (by omega) (by omega) (by omega) (by omega)) ?_
  rintro z1 t1 ⟨rfl, hp1_0⟩
  rcases hp1_0 with ⟨rfl, hp1_0⟩ | ⟨rfl, hp1_0⟩
  · skip
    refine w_ieq (by omega) (fun _ => ?_) (fun h => absurd (by omega) h)
    refine w_step rfl ?_
    refine w_push kc_m1000000001 ?_
    refine w_retI rfl ?_
    exact ⟨ok, fr, (by first | (exact Or.inl ⟨by omega, by first | omega | (subst_vars; rfl), rfl⟩) | (exact Or.inr (Or.inl ⟨by omega, by omega, by first | omega | (subst_vars; rfl), rfl⟩)) | (exact Or.inr (Or.inr (⟨by omega, by omega, by first | omega | (subst_vars; rfl), e1, e2, e3, e4, e5, e6, e7⟩))))⟩
  refine w_ieq (by omega) (fun h => absurd h (by omega)) (fun _ => ?_)
  refine w_iload rfl ?_
  refine w_push kc_0 ?_
  refine w_push kc_6 ?_
  refine w_callS3I rfl (c_X9_in ok (by omega) (by omega) (by omega) (by omega) (by omega) (by omega)) ?_
  rintro z2 t2 ⟨rfl, hp2_0⟩
  rcases hp2_0 with ⟨rfl, hp2_0⟩ | ⟨rfl, hp2_0⟩
  · skip
    refine w_ieq (by omega) (fun _ => ?_) (fun h => absurd (by omega) h)
    refine w_step rfl ?_
    refine w_push kc_m1000000001 ?_
    refine w_retI rfl ?_
    exact ⟨ok, fr, (by first | (exact Or.inl ⟨by omega, by first | omega | (subst_vars; rfl), rfl⟩) | (exact Or.inr (Or.inl ⟨by omega, by omega, by first | omega | (subst_vars; rfl), rfl⟩)) | (exact Or.inr (Or.inr (⟨by omega, by omega, by first | omega | (subst_vars; rfl), e1, e2, e3, e4, e5, e6, e7⟩))))⟩
  refine w_ieq (by omega) (fun h => absurd h (by omega)) (fun _ => ?_)
  refine w_iload rfl ?_
  refine w_push kc_0 ?_
  refine w_push kc_6 ?_
  refine w_callS3I rfl (c_X9_in ok (by omega) (by omega) (by omega) (by omega) (by omega) (by omega)) ?_
  rintro z3 t3 ⟨rfl, hp3_0⟩
  rcases hp3_0 with ⟨rfl, hp3_0⟩ | ⟨rfl, hp3_0⟩
  · skip
    refine w_ine (by omega) (fun h => absurd h (by omega)) (fun _ => ?_)
    refine w_goto ?_
    refine w_step rfl ?_
    refine w_push kc_m1000000001 ?_
    refine w_retI rfl ?_
    exact ⟨ok, fr, (by first | (exact Or.inl ⟨by omega, by first | omega | (subst_vars; rfl), rfl⟩) | (exact Or.inr (Or.inl ⟨by omega, by omega, by first | omega | (subst_vars; rfl), rfl⟩)) | (exact Or.inr (Or.inr (⟨by omega, by omega, by first | omega | (subst_vars; rfl), e1, e2, e3, e4, e5, e6, e7⟩))))⟩
  refine w_ine (by omega) (fun _ => ?_) (fun h => absurd (by omega) h)
  refine w_step rfl ?_
  refine w_aload rfl ?_
  refine w_getR (g_68_0 _) ?_
  refine w_push kc_1 ?_
  refine w_iald (i := 1) (ai_69 _) (by omega) (by omega) (ax_69 nr_1) ok (fun z4 hz4 hl4 hh4 => ?_)
  refine w_push kc_12 ?_
  refine w_cne (by omega) (fun h5 => ?_) (fun h5 => ?_)
  · skip
    refine w_step rfl ?_
    refine w_aload rfl ?_
    refine w_iload rfl ?_
    refine w_iload rfl ?_
    refine w_iload rfl ?_
    refine w_callV3I (oj_68 _).choose_spec rfl (e_X9_comes ok (by omega) (by omega) (by omega) (by omega) (by omega) (by omega) (by omega)) ?_
    rintro z6 t6 ⟨ok6, fq6, hp6_0, hp6_1, hp6_2, hp6_3, hp6_4, hp6_5, hp6_6, hp6_7⟩
    have fr6 := fr.then fq6 (by simp)
    have e0 := hp6_0
    have e1 := hp6_1
    have e2 := hp6_2
    have e3 := hp6_3
    have e4 := hp6_4
    have e5 := hp6_5
    have e6 := hp6_6
    have e7 := hp6_7
    refine w_goto ?_
    refine w_step rfl ?_
    refine w_retI rfl ?_
    exact ⟨ok6, fr6, (by first | (exact Or.inl ⟨by omega, by first | omega | (subst_vars; rfl), rfl⟩) | (exact Or.inr (Or.inl ⟨by omega, by omega, by first | omega | (subst_vars; rfl), rfl⟩)) | (exact Or.inr (Or.inr (⟨by omega, by omega, by first | omega | (subst_vars; rfl), e1, e2, e3, e4, e5, e6, e7⟩))))⟩
  refine w_push kc_m1000000003 ?_
  refine w_goto ?_
  refine w_step rfl ?_
  refine w_retI rfl ?_
  exact ⟨ok, fr, (by first | (exact Or.inl ⟨by omega, by first | omega | (subst_vars; rfl), rfl⟩) | (exact Or.inr (Or.inl ⟨by omega, by omega, by first | omega | (subst_vars; rfl), rfl⟩)) | (exact Or.inr (Or.inr (⟨by omega, by omega, by first | omega | (subst_vars; rfl), e1, e2, e3, e4, e5, e6, e7⟩))))⟩
set_option maxRecDepth 100000 in
set_option maxHeartbeats 4000000 in
theorem e_X9_told {d : Nat} {t : TS} {s w : Int}  (ok : OK t) (q0 : -2147483648 ≤ s) (q1 : s ≤ 2147483647) (q2 : -2147483648 ≤ w) (q3 : w ≤ 2147483647) : CI (EX FU (d + 3)) 141 [.ref 68, .int (jI s), .int (jI w)] (mk t) (fun z t' => t = t' ∧ (((¬ (0 ≤ s ∧ s ≤ tA t 69 1 - 1) ∨ ¬ (0 ≤ w ∧ w ≤ 6)) ∧ z = (-1000000001)) ∨ ((0 ≤ s ∧ s ≤ tA t 69 1 - 1) ∧ (0 ≤ w ∧ w ≤ 4) ∧ z = tA t 69 (29 + 5 * s.toNat + w.toNat)) ∨ ((0 ≤ s ∧ s ≤ tA t 69 1 - 1) ∧ (w = 5) ∧ z = hvA t 69 s.toNat) ∨ ((0 ≤ s ∧ s ≤ tA t 69 1 - 1) ∧ (w = 6) ∧ z = woF (tA t 69 (29 + 5 * s.toNat)) (tA t 69 (30 + 5 * s.toNat)) (tA t 69 (31 + 5 * s.toNat))))) := by
  refine CI_ent (d := d + 2) (Bk := bX9_told) (nL := 3) rfl rfl rfl (Nat.le_of_ble_eq_true rfl) ?_
  show Rn _ 1000000 0 [some (.ref 68), some (.int (jI s)), some (.int (jI w))] [] _ _
  have hn0 := (ok.a (ax_69 nr_1)).1
  have hn1 := (ok.a (ax_69 nr_1)).2
  refine w_step rfl ?_
  refine w_aload rfl ?_
  refine w_iload rfl ?_
  refine w_callV1I (oj_68 _).choose_spec rfl (c_X9_isStone ok (by omega) (by omega)) ?_
  rintro z1 t1 ⟨rfl, hp1_0⟩
  rcases hp1_0 with ⟨rfl, hp1_0⟩ | ⟨rfl, hp1_0⟩
  · skip
    refine w_ieq (by omega) (fun _ => ?_) (fun h => absurd (by omega) h)
    refine w_step rfl ?_
    refine w_push kc_m1000000001 ?_
    refine w_retI rfl ?_
    exact ⟨rfl, (by first | (exact Or.inl ⟨by omega, by first | omega | (subst_vars; rfl)⟩) | (exact Or.inr (Or.inl ⟨by omega, by omega, by omega⟩)) | (exact Or.inr (Or.inr (Or.inl ⟨by omega, by omega, by omega⟩))) | (exact Or.inr (Or.inr (Or.inr (⟨by omega, by omega, by omega⟩)))))⟩
  refine w_ieq (by omega) (fun h => absurd h (by omega)) (fun _ => ?_)
  refine w_iload rfl ?_
  refine w_push kc_0 ?_
  refine w_push kc_6 ?_
  refine w_callS3I rfl (c_X9_in ok (by omega) (by omega) (by omega) (by omega) (by omega) (by omega)) ?_
  rintro z2 t2 ⟨rfl, hp2_0⟩
  rcases hp2_0 with ⟨rfl, hp2_0⟩ | ⟨rfl, hp2_0⟩
  · skip
    refine w_ine (by omega) (fun h => absurd h (by omega)) (fun _ => ?_)
    refine w_goto ?_
    refine w_step rfl ?_
    refine w_push kc_m1000000001 ?_
    refine w_retI rfl ?_
    exact ⟨rfl, (by first | (exact Or.inl ⟨by omega, by first | omega | (subst_vars; rfl)⟩) | (exact Or.inr (Or.inl ⟨by omega, by omega, by omega⟩)) | (exact Or.inr (Or.inr (Or.inl ⟨by omega, by omega, by omega⟩))) | (exact Or.inr (Or.inr (Or.inr (⟨by omega, by omega, by omega⟩)))))⟩
  refine w_ine (by omega) (fun _ => ?_) (fun h => absurd (by omega) h)
  refine w_step rfl ?_
  refine w_iload rfl ?_
  refine w_push kc_5 ?_
  refine w_cge (by omega) (fun h3 => ?_) (fun h3 => ?_)
  · skip
    refine w_step rfl ?_
    refine w_iload rfl ?_
    refine w_push kc_5 ?_
    refine w_cne (by omega) (fun h4 => ?_) (fun h4 => ?_)
    · skip
      refine w_step rfl ?_
      refine w_aload rfl ?_
      refine w_iload rfl ?_
      refine w_callV1I (oj_68 _).choose_spec rfl (c_X9_worthOf ok (by omega) (by omega)) ?_
      rintro z5 t5 ⟨rfl, hp5_0, hp5_1, hp5_2⟩
      have ew : z5 = woF (tA t 69 (29 + 5 * s.toNat)) (tA t 69 (30 + 5 * s.toNat)) (tA t 69 (31 + 5 * s.toNat)) := by
        rw [hp5_0]
        congr 2 <;> omega
      refine w_goto ?_
      refine w_step rfl ?_
      refine w_retI rfl ?_
      exact ⟨rfl, (by first | (exact Or.inl ⟨by omega, by first | omega | (subst_vars; rfl)⟩) | (exact Or.inr (Or.inl ⟨by omega, by omega, by omega⟩)) | (exact Or.inr (Or.inr (Or.inl ⟨by omega, by omega, by omega⟩))) | (exact Or.inr (Or.inr (Or.inr (⟨by omega, by omega, by omega⟩)))))⟩
    refine w_aload rfl ?_
    refine w_iload rfl ?_
    refine w_callV1I (oj_68 _).choose_spec rfl (c_X9_heavyOf ok (by omega) (by omega)) ?_
    rintro z6 t6 ⟨rfl, hp6_0, hp6_1, hp6_2⟩
    have eh : z6 = hvA t 69 s.toNat := by
      rw [hp6_0]
      unfold hvA
      congr 2 <;> omega
    refine w_goto ?_
    refine w_step rfl ?_
    refine w_retI rfl ?_
    exact ⟨rfl, (by first | (exact Or.inl ⟨by omega, by first | omega | (subst_vars; rfl)⟩) | (exact Or.inr (Or.inl ⟨by omega, by omega, by omega⟩)) | (exact Or.inr (Or.inr (Or.inl ⟨by omega, by omega, by omega⟩))) | (exact Or.inr (Or.inr (Or.inr (⟨by omega, by omega, by omega⟩)))))⟩
  refine w_aload rfl ?_
  refine w_iload rfl ?_
  refine w_iload rfl ?_
  refine w_callV2I (oj_68 _).choose_spec rfl (c_X9_of ok (by omega) (by omega) (by omega) (by omega)) ?_
  rintro z7 t7 ⟨rfl, hp7_0, hp7_1, hp7_2⟩
  have eo : z7 = tA t 69 (29 + 5 * s.toNat + w.toNat) := by
    rw [hp7_0]
    congr 1
    omega
  refine w_goto ?_
  refine w_step rfl ?_
  refine w_retI rfl ?_
  exact ⟨rfl, (by first | (exact Or.inl ⟨by omega, by first | omega | (subst_vars; rfl)⟩) | (exact Or.inr (Or.inl ⟨by omega, by omega, by omega⟩)) | (exact Or.inr (Or.inr (Or.inl ⟨by omega, by omega, by omega⟩))) | (exact Or.inr (Or.inr (Or.inr (⟨by omega, by omega, by omega⟩)))))⟩
set_option maxRecDepth 100000 in
set_option maxHeartbeats 4000000 in
theorem e_X9_off {d : Nat} {t : TS} {s p u : Int}  (ok : OK t) (q0 : WF t 69) (q1 : NZ t 69) (q2 : -2147483648 ≤ s) (q3 : s ≤ 2147483647) (q4 : -2147483648 ≤ p) (q5 : p ≤ 2147483647) (q6 : -2147483648 ≤ u) (q7 : u ≤ 2147483647) : CI (EX FU (d + 5)) 145 [.ref 68, .int (jI s), .int (jI p), .int (jI u)] (mk t) (fun z t' => OK t' ∧ Fr [(81, 100), (82, 100)] t t' ∧ (((¬ (0 ≤ s ∧ s ≤ tA t 69 1 - 1 ∧ 0 ≤ p ∧ p ≤ 11 ∧ 0 ≤ u ∧ u ≤ 1)) ∧ z = (-1000000001)) ∨ ((0 ≤ s ∧ s ≤ tA t 69 1 - 1 ∧ 0 ≤ p ∧ p ≤ 11 ∧ 0 ≤ u ∧ u ≤ 1) ∧ z = OA t 69 s.toNat p.toNat u.toNat))) := by
  refine CI_ent (d := d + 4) (Bk := bX9_off) (nL := 4) rfl rfl rfl (Nat.le_of_ble_eq_true rfl) ?_
  show Rn _ 1000000 0 [some (.ref 68), some (.int (jI s)), some (.int (jI p)), some (.int (jI u))] [] _ _
  have fr : Fr [(81, 100), (82, 100)] t t := Fr.rf _ _
  have hn0 := (ok.a (ax_69 nr_1)).1
  have hn1 := (ok.a (ax_69 nr_1)).2
  refine w_step rfl ?_
  refine w_aload rfl ?_
  refine w_iload rfl ?_
  refine w_callV1I (oj_68 _).choose_spec rfl (c_X9_isStone ok (by omega) (by omega)) ?_
  rintro z1 t1 ⟨rfl, hp1_0⟩
  rcases hp1_0 with ⟨rfl, hp1_0⟩ | ⟨rfl, hp1_0⟩
  · skip
    refine w_ieq (by omega) (fun _ => ?_) (fun h => absurd (by omega) h)
    refine w_step rfl ?_
    refine w_push kc_m1000000001 ?_
    refine w_goto ?_
    refine w_step rfl ?_
    refine w_retI rfl ?_
    exact ⟨ok, fr, (by first | (exact Or.inl ⟨by omega, by first | omega | (subst_vars; rfl)⟩) | (exact Or.inr (⟨by omega, by omega⟩)))⟩
  refine w_ieq (by omega) (fun h => absurd h (by omega)) (fun _ => ?_)
  refine w_iload rfl ?_
  refine w_callS1I rfl (c_X9_isPlace ok (by omega) (by omega)) ?_
  rintro z2 t2 ⟨rfl, hp2_0⟩
  rcases hp2_0 with ⟨rfl, hp2_0⟩ | ⟨rfl, hp2_0⟩
  · skip
    refine w_ieq (by omega) (fun _ => ?_) (fun h => absurd (by omega) h)
    refine w_step rfl ?_
    refine w_push kc_m1000000001 ?_
    refine w_goto ?_
    refine w_step rfl ?_
    refine w_retI rfl ?_
    exact ⟨ok, fr, (by first | (exact Or.inl ⟨by omega, by first | omega | (subst_vars; rfl)⟩) | (exact Or.inr (⟨by omega, by omega⟩)))⟩
  refine w_ieq (by omega) (fun h => absurd h (by omega)) (fun _ => ?_)
  refine w_iload rfl ?_
  refine w_push kc_0 ?_
  refine w_push kc_1 ?_
  refine w_callS3I rfl (c_X9_in ok (by omega) (by omega) (by omega) (by omega) (by omega) (by omega)) ?_
  rintro z3 t3 ⟨rfl, hp3_0⟩
  rcases hp3_0 with ⟨rfl, hp3_0⟩ | ⟨rfl, hp3_0⟩
  · skip
    refine w_ieq (by omega) (fun _ => ?_) (fun h => absurd (by omega) h)
    refine w_step rfl ?_
    refine w_push kc_m1000000001 ?_
    refine w_goto ?_
    refine w_step rfl ?_
    refine w_retI rfl ?_
    exact ⟨ok, fr, (by first | (exact Or.inl ⟨by omega, by first | omega | (subst_vars; rfl)⟩) | (exact Or.inr (⟨by omega, by omega⟩)))⟩
  refine w_ieq (by omega) (fun h => absurd h (by omega)) (fun _ => ?_)
  refine w_aload rfl ?_
  refine w_iload rfl ?_
  refine w_iload rfl ?_
  refine w_iload rfl ?_
  refine w_callV3I (oj_68 _).choose_spec rfl (e_X9_offOf ok q0 (by omega) (by omega) (by omega) (by omega) (by omega) (by omega) (by omega)) ?_
  rintro z4 t4 ⟨ok4, fq4, hp4_0, hp4_1, hp4_2⟩
  have fr4 := fr.then fq4 (by simp)
  have wf4 := q0.fr fq4 (by simp)
  refine w_goto ?_
  refine w_step rfl ?_
  refine w_retI rfl ?_
  exact ⟨ok4, fr4, (by first | (exact Or.inl ⟨by omega, by first | omega | (subst_vars; rfl)⟩) | (exact Or.inr (⟨by omega, by omega⟩)))⟩
set_option maxRecDepth 100000 in
set_option maxHeartbeats 4000000 in
theorem e_X9_put {d : Nat} {t : TS} {s p u : Int}  (ok : OK t) (q0 : -2147483648 ≤ s) (q1 : s ≤ 2147483647) (q2 : -2147483648 ≤ p) (q3 : p ≤ 2147483647) (q4 : -2147483648 ≤ u) (q5 : u ≤ 2147483647) : CI (EX FU (d + 3)) 150 [.ref 68, .int (jI s), .int (jI p), .int (jI u)] (mk t) (fun z t' => OK t' ∧ Fr [(69, 100)] t t' ∧ (((¬ (0 ≤ s ∧ s ≤ tA t 69 1 - 1 ∧ 0 ≤ p ∧ p ≤ 11 ∧ 0 ≤ u ∧ u ≤ 1)) ∧ z = (-1000000001) ∧ (∀ i, tA t' 69 i = tA t 69 i)) ∨ ((0 ≤ s ∧ s ≤ tA t 69 1 - 1 ∧ 0 ≤ p ∧ p ≤ 11 ∧ 0 ≤ u ∧ u ≤ 1) ∧ (¬ RHp t p = -1) ∧ (¬ RHp t p = s) ∧ z = (-1000000002) ∧ (∀ i, tA t' 69 i = tA t 69 i)) ∨ ((0 ≤ s ∧ s ≤ tA t 69 1 - 1 ∧ 0 ≤ p ∧ p ≤ 11 ∧ 0 ≤ u ∧ u ≤ 1) ∧ (RHp t p = -1 ∨ RHp t p = s) ∧ z = tA t 69 (32 + 5 * s.toNat) ∧ (∀ i, tA t' 69 i = if i = 32 + 5 * s.toNat then p else if i = 33 + 5 * s.toNat then u else tA t 69 i)))) := by
  refine CI_ent (d := d + 2) (Bk := bX9_put) (nL := 5) rfl rfl rfl (Nat.le_of_ble_eq_true rfl) ?_
  show Rn _ 1000000 0 [some (.ref 68), some (.int (jI s)), some (.int (jI p)), some (.int (jI u)), none] [] _ _
  have fr : Fr [(69, 100)] t t := Fr.rf _ _
  have hn0 := (ok.a (ax_69 nr_1)).1
  have hn1 := (ok.a (ax_69 nr_1)).2
  refine w_step rfl ?_
  refine w_aload rfl ?_
  refine w_iload rfl ?_
  refine w_callV1I (oj_68 _).choose_spec rfl (c_X9_isStone ok (by omega) (by omega)) ?_
  rintro z1 t1 ⟨rfl, hp1_0⟩
  rcases hp1_0 with ⟨rfl, hp1_0⟩ | ⟨rfl, hp1_0⟩
  · skip
    refine w_ieq (by omega) (fun _ => ?_) (fun h => absurd (by omega) h)
    refine w_step rfl ?_
    refine w_push kc_m1000000001 ?_
    refine w_retI rfl ?_
    exact ⟨ok, fr, (by first | (exact Or.inl ⟨by omega, by first | omega | (subst_vars; rfl), fun _ => rfl⟩) | (exact Or.inr (Or.inl ⟨by omega, by omega, by omega, by first | omega | (subst_vars; rfl), fun _ => rfl⟩)) | (exact Or.inr (Or.inr (⟨by omega, by omega, by omega, by intro i; rw [w2, tA_uA, w1, tA_uA, show (29 + 5 * s + 3).toNat = 32 + 5 * s.toNat by omega, show (29 + 5 * s + 4).toNat = 33 + 5 * s.toNat by omega]; simp⟩))))⟩
  refine w_ieq (by omega) (fun h => absurd h (by omega)) (fun _ => ?_)
  refine w_iload rfl ?_
  refine w_callS1I rfl (c_X9_isPlace ok (by omega) (by omega)) ?_
  rintro z2 t2 ⟨rfl, hp2_0⟩
  rcases hp2_0 with ⟨rfl, hp2_0⟩ | ⟨rfl, hp2_0⟩
  · skip
    refine w_ieq (by omega) (fun _ => ?_) (fun h => absurd (by omega) h)
    refine w_step rfl ?_
    refine w_push kc_m1000000001 ?_
    refine w_retI rfl ?_
    exact ⟨ok, fr, (by first | (exact Or.inl ⟨by omega, by first | omega | (subst_vars; rfl), fun _ => rfl⟩) | (exact Or.inr (Or.inl ⟨by omega, by omega, by omega, by first | omega | (subst_vars; rfl), fun _ => rfl⟩)) | (exact Or.inr (Or.inr (⟨by omega, by omega, by omega, by intro i; rw [w2, tA_uA, w1, tA_uA, show (29 + 5 * s + 3).toNat = 32 + 5 * s.toNat by omega, show (29 + 5 * s + 4).toNat = 33 + 5 * s.toNat by omega]; simp⟩))))⟩
  refine w_ieq (by omega) (fun h => absurd h (by omega)) (fun _ => ?_)
  refine w_iload rfl ?_
  refine w_push kc_0 ?_
  refine w_push kc_1 ?_
  refine w_callS3I rfl (c_X9_in ok (by omega) (by omega) (by omega) (by omega) (by omega) (by omega)) ?_
  rintro z3 t3 ⟨rfl, hp3_0⟩
  rcases hp3_0 with ⟨rfl, hp3_0⟩ | ⟨rfl, hp3_0⟩
  · skip
    refine w_ine (by omega) (fun h => absurd h (by omega)) (fun _ => ?_)
    refine w_goto ?_
    refine w_step rfl ?_
    refine w_push kc_m1000000001 ?_
    refine w_retI rfl ?_
    exact ⟨ok, fr, (by first | (exact Or.inl ⟨by omega, by first | omega | (subst_vars; rfl), fun _ => rfl⟩) | (exact Or.inr (Or.inl ⟨by omega, by omega, by omega, by first | omega | (subst_vars; rfl), fun _ => rfl⟩)) | (exact Or.inr (Or.inr (⟨by omega, by omega, by omega, by intro i; rw [w2, tA_uA, w1, tA_uA, show (29 + 5 * s + 3).toNat = 32 + 5 * s.toNat by omega, show (29 + 5 * s + 4).toNat = 33 + 5 * s.toNat by omega]; simp⟩))))⟩
  refine w_ine (by omega) (fun _ => ?_) (fun h => absurd (by omega) h)
  refine w_step rfl ?_
  refine w_aload rfl ?_
  refine w_iload rfl ?_
  refine w_callV1I (oj_68 _).choose_spec rfl (e_X9_holder ok (by omega) (by omega)) ?_
  rintro z4 t4 ⟨rfl, hp4_0, hp4_1, hp4_2⟩
  have eh := hp4_2
  have hrb := rh_b t p
  unfold RN at hrb
  refine w_istore (lv' := [some (.ref 68), some (.int (jI s)), some (.int (jI p)), some (.int (jI u)), some (.int (jI z4))]) rfl ?_
  refine w_iload rfl ?_
  refine w_ilt (by omega) (fun h5 => ?_) (fun h5 => ?_)
  · skip
    refine w_step rfl ?_
    refine w_aload rfl ?_
    refine w_getR (g_68_0 _) ?_
    refine w_push kc_29 ?_
    refine w_push kc_5 ?_
    refine w_iload rfl ?_
    refine w_mul ?_
    refine w_add ?_
    refine w_push kc_4 ?_
    refine w_add ?_
    refine w_iload rfl ?_
    refine w_iast (i := (((29 + (5 * s)) + 4)).toNat) (ai_69 _) rfl (by omega) (by omega) (ax_69 (nr_S4 (s := s.toNat) (by omega))) ok (by omega) (fun t6 ht6 ok6 => ?_)
    have fr6 := fr.uA ht6 (by simp)
    have w1 := ht6
    refine w_aload rfl ?_
    refine w_push kc_29 ?_
    refine w_push kc_5 ?_
    refine w_iload rfl ?_
    refine w_mul ?_
    refine w_add ?_
    refine w_push kc_3 ?_
    refine w_add ?_
    refine w_iload rfl ?_
    refine w_callV2I (oj_68 _).choose_spec rfl (c_X9_becomes ok6 (by omega) (by omega) ⟨_, _, nr_S3 (s := s.toNat) (by omega), by omega, by omega⟩) ?_
    rintro z7 t7 ⟨ok7, fq7, hp7_0, hp7_1, hp7_2, hp7_3⟩
    have fr7 := fr6.then fq7 (by simp)
    have w2 := hp7_1
    have wz : z7 = tA t 69 (32 + 5 * s.toNat) := by
      rw [hp7_0, w1, tA_uA, if_neg (by omega)]
      congr 1
      omega
    refine w_retI rfl ?_
    exact ⟨ok7, fr7, (by first | (exact Or.inl ⟨by omega, by first | omega | (subst_vars; rfl), fun _ => rfl⟩) | (exact Or.inr (Or.inl ⟨by omega, by omega, by omega, by first | omega | (subst_vars; rfl), fun _ => rfl⟩)) | (exact Or.inr (Or.inr (⟨by omega, by omega, by omega, by intro i; rw [w2, tA_uA, w1, tA_uA, show (29 + 5 * s + 3).toNat = 32 + 5 * s.toNat by omega, show (29 + 5 * s + 4).toNat = 33 + 5 * s.toNat by omega]; simp⟩))))⟩
  refine w_iload rfl ?_
  refine w_iload rfl ?_
  refine w_ceq (by omega) (fun h8 => ?_) (fun h8 => ?_)
  · skip
    refine w_step rfl ?_
    refine w_aload rfl ?_
    refine w_getR (g_68_0 _) ?_
    refine w_push kc_29 ?_
    refine w_push kc_5 ?_
    refine w_iload rfl ?_
    refine w_mul ?_
    refine w_add ?_
    refine w_push kc_4 ?_
    refine w_add ?_
    refine w_iload rfl ?_
    refine w_iast (i := (((29 + (5 * s)) + 4)).toNat) (ai_69 _) rfl (by omega) (by omega) (ax_69 (nr_S4 (s := s.toNat) (by omega))) ok (by omega) (fun t9 ht9 ok9 => ?_)
    have fr9 := fr.uA ht9 (by simp)
    have w1 := ht9
    refine w_aload rfl ?_
    refine w_push kc_29 ?_
    refine w_push kc_5 ?_
    refine w_iload rfl ?_
    refine w_mul ?_
    refine w_add ?_
    refine w_push kc_3 ?_
    refine w_add ?_
    refine w_iload rfl ?_
    refine w_callV2I (oj_68 _).choose_spec rfl (c_X9_becomes ok9 (by omega) (by omega) ⟨_, _, nr_S3 (s := s.toNat) (by omega), by omega, by omega⟩) ?_
    rintro z10 t10 ⟨ok10, fq10, hp10_0, hp10_1, hp10_2, hp10_3⟩
    have fr10 := fr9.then fq10 (by simp)
    have w2 := hp10_1
    have wz : z10 = tA t 69 (32 + 5 * s.toNat) := by
      rw [hp10_0, w1, tA_uA, if_neg (by omega)]
      congr 1
      omega
    refine w_retI rfl ?_
    exact ⟨ok10, fr10, (by first | (exact Or.inl ⟨by omega, by first | omega | (subst_vars; rfl), fun _ => rfl⟩) | (exact Or.inr (Or.inl ⟨by omega, by omega, by omega, by first | omega | (subst_vars; rfl), fun _ => rfl⟩)) | (exact Or.inr (Or.inr (⟨by omega, by omega, by omega, by intro i; rw [w2, tA_uA, w1, tA_uA, show (29 + 5 * s + 3).toNat = 32 + 5 * s.toNat by omega, show (29 + 5 * s + 4).toNat = 33 + 5 * s.toNat by omega]; simp⟩))))⟩
  refine w_push kc_m1000000002 ?_
  refine w_retI rfl ?_
  exact ⟨ok, fr, (by first | (exact Or.inl ⟨by omega, by first | omega | (subst_vars; rfl), fun _ => rfl⟩) | (exact Or.inr (Or.inl ⟨by omega, by omega, by omega, by first | omega | (subst_vars; rfl), fun _ => rfl⟩)) | (exact Or.inr (Or.inr (⟨by omega, by omega, by omega, by intro i; rw [w2, tA_uA, w1, tA_uA, show (29 + 5 * s + 3).toNat = 32 + 5 * s.toNat by omega, show (29 + 5 * s + 4).toNat = 33 + 5 * s.toNat by omega]; simp⟩))))⟩
set_option maxRecDepth 100000 in
set_option maxHeartbeats 4000000 in
theorem e_X9_box {d : Nat} {t : TS} {s : Int}  (ok : OK t) (q0 : -2147483648 ≤ s) (q1 : s ≤ 2147483647) : CI (EX FU (d + 3)) 151 [.ref 68, .int (jI s)] (mk t) (fun z t' => OK t' ∧ Fr [(69, 100)] t t' ∧ (((¬ (0 ≤ s ∧ s ≤ tA t 69 1 - 1)) ∧ z = (-1000000001) ∧ (∀ i, tA t' 69 i = tA t 69 i)) ∨ ((0 ≤ s ∧ s ≤ tA t 69 1 - 1) ∧ z = tA t 69 (32 + 5 * s.toNat) ∧ (∀ i, tA t' 69 i = if i = 32 + 5 * s.toNat then 12 else tA t 69 i)))) := by
  refine CI_ent (d := d + 2) (Bk := bX9_box) (nL := 2) rfl rfl rfl (Nat.le_of_ble_eq_true rfl) ?_
  show Rn _ 1000000 0 [some (.ref 68), some (.int (jI s))] [] _ _
  have fr : Fr [(69, 100)] t t := Fr.rf _ _
  have hn0 := (ok.a (ax_69 nr_1)).1
  have hn1 := (ok.a (ax_69 nr_1)).2
  refine w_step rfl ?_
  refine w_aload rfl ?_
  refine w_iload rfl ?_
  refine w_callV1I (oj_68 _).choose_spec rfl (c_X9_isStone ok (by omega) (by omega)) ?_
  rintro z1 t1 ⟨rfl, hp1_0⟩
  rcases hp1_0 with ⟨rfl, hp1_0⟩ | ⟨rfl, hp1_0⟩
  · skip
    refine w_ieq (by omega) (fun _ => ?_) (fun h => absurd (by omega) h)
    refine w_step rfl ?_
    refine w_push kc_m1000000001 ?_
    refine w_goto ?_
    refine w_step rfl ?_
    refine w_retI rfl ?_
    exact ⟨ok, fr, (by first | (exact Or.inl ⟨by omega, by first | omega | (subst_vars; rfl), fun _ => rfl⟩) | (exact Or.inr (⟨by omega, by omega, by intro i; rw [w2, tA_uA, show (29 + 5 * s + 3).toNat = 32 + 5 * s.toNat by omega]; simp⟩)))⟩
  refine w_ieq (by omega) (fun h => absurd h (by omega)) (fun _ => ?_)
  refine w_aload rfl ?_
  refine w_push kc_29 ?_
  refine w_push kc_5 ?_
  refine w_iload rfl ?_
  refine w_mul ?_
  refine w_add ?_
  refine w_push kc_3 ?_
  refine w_add ?_
  refine w_push kc_12 ?_
  refine w_callV2I (oj_68 _).choose_spec rfl (c_X9_becomes ok (by omega) (by omega) ⟨_, _, nr_S3 (s := s.toNat) (by omega), by omega, by omega⟩) ?_
  rintro z2 t2 ⟨ok2, fq2, hp2_0, hp2_1, hp2_2, hp2_3⟩
  have fr2 := fr.then fq2 (by simp)
  have w2 := hp2_1
  have wz : z2 = tA t 69 (32 + 5 * s.toNat) := by
    rw [hp2_0]
    congr 1
    omega
  refine w_goto ?_
  refine w_step rfl ?_
  refine w_retI rfl ?_
  exact ⟨ok2, fr2, (by first | (exact Or.inl ⟨by omega, by first | omega | (subst_vars; rfl), fun _ => rfl⟩) | (exact Or.inr (⟨by omega, by omega, by intro i; rw [w2, tA_uA, show (29 + 5 * s + 3).toNat = 32 + 5 * s.toNat by omega]; simp⟩)))⟩
set_option maxRecDepth 100000 in
set_option maxHeartbeats 4000000 in
theorem e_X9_deal {d : Nat} {t : TS} {n : Int}  (ok : OK t) (q0 : -2147483648 ≤ n) (q1 : n ≤ 2147483647) : CI (EX FU (d + 2)) 155 [.ref 68, .int (jI n)] (mk t) (fun z t' => OK t' ∧ Fr [(69, 100)] t t' ∧ (((¬ (1 ≤ n ∧ n ≤ 12)) ∧ z = (-1000000001) ∧ t' = t) ∨ ((1 ≤ n ∧ n ≤ 12) ∧ z = min n (12 - tA t 69 1) ∧ (tA t' 69 1 = tA t 69 1 + min n (12 - tA t 69 1)) ∧ (tA t' 69 0 = dzF (min n (12 - tA t 69 1)).toNat (tA t 69 0)) ∧ (∀ m : Nat, tA t' 69 (29 + 5 * m) = if tA t 69 1 ≤ (m : Int) ∧ (m : Int) < tA t 69 1 + min n (12 - tA t 69 1) then kdF (tA t 69 0) (m - (tA t 69 1).toNat) else tA t 69 (29 + 5 * m)) ∧ (∀ m : Nat, tA t' 69 (30 + 5 * m) = if tA t 69 1 ≤ (m : Int) ∧ (m : Int) < tA t 69 1 + min n (12 - tA t 69 1) then ldF (tA t 69 0) (m - (tA t 69 1).toNat) else tA t 69 (30 + 5 * m)) ∧ (∀ m : Nat, tA t' 69 (31 + 5 * m) = if tA t 69 1 ≤ (m : Int) ∧ (m : Int) < tA t 69 1 + min n (12 - tA t 69 1) then rdF (tA t 69 0) (m - (tA t 69 1).toNat) else tA t 69 (31 + 5 * m)) ∧ (∀ m : Nat, tA t' 69 (32 + 5 * m) = if tA t 69 1 ≤ (m : Int) ∧ (m : Int) < tA t 69 1 + min n (12 - tA t 69 1) then 12 else tA t 69 (32 + 5 * m)) ∧ (∀ m : Nat, tA t' 69 (33 + 5 * m) = if tA t 69 1 ≤ (m : Int) ∧ (m : Int) < tA t 69 1 + min n (12 - tA t 69 1) then 0 else tA t 69 (33 + 5 * m)) ∧ (∀ i, ¬ i = 0 → ¬ i = 1 → (i < 29 ∨ 89 ≤ i) → tA t' 69 i = tA t 69 i)))) := by
  refine CI_ent (d := d + 1) (Bk := bX9_deal) (nL := 6) rfl rfl rfl (Nat.le_of_ble_eq_true rfl) ?_
  show Rn _ 1000000 0 [some (.ref 68), some (.int (jI n)), none, none, none, none] [] _ _
  have fr : Fr [(69, 100)] t t := Fr.rf _ _
  have hn0 := (ok.a (ax_69 nr_1)).1
  have hn1 := (ok.a (ax_69 nr_1)).2
  refine w_step rfl ?_
  refine w_iload rfl ?_
  refine w_push kc_1 ?_
  refine w_push kc_12 ?_
  refine w_callS3I rfl (c_X9_in ok (by omega) (by omega) (by omega) (by omega) (by omega) (by omega)) ?_
  rintro z1 t1 ⟨rfl, hp1_0⟩
  rcases hp1_0 with ⟨rfl, hp1_0⟩ | ⟨rfl, hp1_0⟩
  · skip
    refine w_ine (by omega) (fun h => absurd h (by omega)) (fun _ => ?_)
    refine w_push kc_m1000000001 ?_
    refine w_retI rfl ?_
    exact ⟨ok, fr, (by first | (exact Or.inl ⟨by omega, by first | omega | (subst_vars; rfl), rfl⟩) | (exact Or.inr (⟨by omega, by first | omega | (subst_vars; rfl), by omega, by have e : many = min n (12 - tA t 69 1) := (by omega); rw [← e]; exact i2_4, by have e : many = min n (12 - tA t 69 1) := (by omega); rw [← e]; exact i2_5, by have e : many = min n (12 - tA t 69 1) := (by omega); rw [← e]; exact i2_6, by have e : many = min n (12 - tA t 69 1) := (by omega); rw [← e]; exact i2_7, by have e : many = min n (12 - tA t 69 1) := (by omega); rw [← e]; exact i2_9, by have e : many = min n (12 - tA t 69 1) := (by omega); rw [← e]; exact i2_10, i2_8⟩)))⟩
  refine w_ine (by omega) (fun _ => ?_) (fun h => absurd (by omega) h)
  refine w_step rfl ?_
  refine w_push kc_0 ?_
  refine w_istore (lv' := [some (.ref 68), some (.int (jI n)), some (.int (jI 0)), none, none, none]) rfl ?_
  refine w_goto ?_
  have key2 : ∀ (n2 M2 : Nat) (many : Int) (o3 : Option Int) (o4 : Option Int) (o5 : Option Int) (t2 : TS), OK t2 → Fr [(69, 100)] t t2 → (0 ≤ many) → (many ≤ n) → (tA t2 69 1 = tA t 69 1 + many) → (tA t 69 1 + many ≤ 12 ∨ many = 0) → (tA t2 69 0 = dzF many.toNat (tA t 69 0)) → (∀ m : Nat, tA t2 69 (29 + 5 * m) = if tA t 69 1 ≤ (m : Int) ∧ (m : Int) < tA t 69 1 + many then kdF (tA t 69 0) (m - (tA t 69 1).toNat) else tA t 69 (29 + 5 * m)) → (∀ m : Nat, tA t2 69 (30 + 5 * m) = if tA t 69 1 ≤ (m : Int) ∧ (m : Int) < tA t 69 1 + many then ldF (tA t 69 0) (m - (tA t 69 1).toNat) else tA t 69 (30 + 5 * m)) → (∀ m : Nat, tA t2 69 (31 + 5 * m) = if tA t 69 1 ≤ (m : Int) ∧ (m : Int) < tA t 69 1 + many then rdF (tA t 69 0) (m - (tA t 69 1).toNat) else tA t 69 (31 + 5 * m)) → (∀ i, ¬ i = 0 → ¬ i = 1 → (i < 29 ∨ 89 ≤ i) → tA t2 69 i = tA t 69 i) → (∀ m : Nat, tA t2 69 (32 + 5 * m) = if tA t 69 1 ≤ (m : Int) ∧ (m : Int) < tA t 69 1 + many then 12 else tA t 69 (32 + 5 * m)) → (∀ m : Nat, tA t2 69 (33 + 5 * m) = if tA t 69 1 ≤ (m : Int) ∧ (m : Int) < tA t 69 1 + many then 0 else tA t 69 (33 + 5 * m)) → 12 - many < (n2 : Int) → 60 * n2 + (1000) ≤ M2 → Rn (bX9_deal (EX FU (d + 1))) M2 2 [some (.ref 68), some (.int (jI n)), some (.int (jI many)), dv o3, dv o4, dv o5] [] (mk t2) (PI (fun z t' => OK t' ∧ Fr [(69, 100)] t t' ∧ (((¬ (1 ≤ n ∧ n ≤ 12)) ∧ z = (-1000000001) ∧ t' = t) ∨ ((1 ≤ n ∧ n ≤ 12) ∧ z = min n (12 - tA t 69 1) ∧ (tA t' 69 1 = tA t 69 1 + min n (12 - tA t 69 1)) ∧ (tA t' 69 0 = dzF (min n (12 - tA t 69 1)).toNat (tA t 69 0)) ∧ (∀ m : Nat, tA t' 69 (29 + 5 * m) = if tA t 69 1 ≤ (m : Int) ∧ (m : Int) < tA t 69 1 + min n (12 - tA t 69 1) then kdF (tA t 69 0) (m - (tA t 69 1).toNat) else tA t 69 (29 + 5 * m)) ∧ (∀ m : Nat, tA t' 69 (30 + 5 * m) = if tA t 69 1 ≤ (m : Int) ∧ (m : Int) < tA t 69 1 + min n (12 - tA t 69 1) then ldF (tA t 69 0) (m - (tA t 69 1).toNat) else tA t 69 (30 + 5 * m)) ∧ (∀ m : Nat, tA t' 69 (31 + 5 * m) = if tA t 69 1 ≤ (m : Int) ∧ (m : Int) < tA t 69 1 + min n (12 - tA t 69 1) then rdF (tA t 69 0) (m - (tA t 69 1).toNat) else tA t 69 (31 + 5 * m)) ∧ (∀ m : Nat, tA t' 69 (32 + 5 * m) = if tA t 69 1 ≤ (m : Int) ∧ (m : Int) < tA t 69 1 + min n (12 - tA t 69 1) then 12 else tA t 69 (32 + 5 * m)) ∧ (∀ m : Nat, tA t' 69 (33 + 5 * m) = if tA t 69 1 ≤ (m : Int) ∧ (m : Int) < tA t 69 1 + min n (12 - tA t 69 1) then 0 else tA t 69 (33 + 5 * m)) ∧ (∀ i, ¬ i = 0 → ¬ i = 1 → (i < 29 ∨ 89 ≤ i) → tA t' 69 i = tA t 69 i))))) := by
    intro n2
    induction n2 with
    | zero => intro M2 many o3 o4 o5 t2 ok2 fr2 i2_0 i2_1 i2_2 i2_3 i2_4 i2_5 i2_6 i2_7 i2_8 i2_9 i2_10 v2 f2; exfalso; omega
    | succ n2 ih2 =>
      intro M2 many o3 o4 o5 t2 ok2 fr2 i2_0 i2_1 i2_2 i2_3 i2_4 i2_5 i2_6 i2_7 i2_8 i2_9 i2_10 v2 f2
      obtain ⟨M2, rfl⟩ : ∃ m, M2 = m + 60 := ⟨M2 - 60, by omega⟩
      refine w_step rfl ?_
      refine w_iload rfl ?_
      refine w_iload rfl ?_
      refine w_cge (by omega) (fun h3 => ?_) (fun h3 => ?_)
      · skip
        refine w_step rfl ?_
        refine w_iload rfl ?_
        refine w_retI rfl ?_
        exact ⟨ok2, fr2, (by first | (exact Or.inl ⟨by omega, by first | omega | (subst_vars; rfl), rfl⟩) | (exact Or.inr (⟨by omega, by first | omega | (subst_vars; rfl), by omega, by have e : many = min n (12 - tA t 69 1) := (by omega); rw [← e]; exact i2_4, by have e : many = min n (12 - tA t 69 1) := (by omega); rw [← e]; exact i2_5, by have e : many = min n (12 - tA t 69 1) := (by omega); rw [← e]; exact i2_6, by have e : many = min n (12 - tA t 69 1) := (by omega); rw [← e]; exact i2_7, by have e : many = min n (12 - tA t 69 1) := (by omega); rw [← e]; exact i2_9, by have e : many = min n (12 - tA t 69 1) := (by omega); rw [← e]; exact i2_10, i2_8⟩)))⟩
      refine w_aload rfl ?_
      refine w_getR (g_68_0 _) ?_
      refine w_push kc_1 ?_
      refine w_iald (i := 1) (ai_69 _) (by omega) (by omega) (ax_69 nr_1) ok2 (fun z4 hz4 hl4 hh4 => ?_)
      refine w_push kc_12 ?_
      refine w_cge (by omega) (fun h5 => ?_) (fun h5 => ?_)
      · skip
        refine w_step rfl ?_
        refine w_iload rfl ?_
        refine w_retI rfl ?_
        exact ⟨ok2, fr2, (by first | (exact Or.inl ⟨by omega, by first | omega | (subst_vars; rfl), rfl⟩) | (exact Or.inr (⟨by omega, by first | omega | (subst_vars; rfl), by omega, by have e : many = min n (12 - tA t 69 1) := (by omega); rw [← e]; exact i2_4, by have e : many = min n (12 - tA t 69 1) := (by omega); rw [← e]; exact i2_5, by have e : many = min n (12 - tA t 69 1) := (by omega); rw [← e]; exact i2_6, by have e : many = min n (12 - tA t 69 1) := (by omega); rw [← e]; exact i2_7, by have e : many = min n (12 - tA t 69 1) := (by omega); rw [← e]; exact i2_9, by have e : many = min n (12 - tA t 69 1) := (by omega); rw [← e]; exact i2_10, i2_8⟩)))⟩
      refine w_aload rfl ?_
      refine w_callV0I (oj_68 _).choose_spec rfl (c_X9_draw ok2) ?_
      rintro z6 t6 ⟨ok6, fq6, hp6_0, hp6_1, hp6_2, hp6_3⟩
      have fr6 := fr2.then fq6 (by simp)
      have e1 : tA t6 69 0 = znF (dzF many.toNat (tA t 69 0)) := by rw [hp6_0, tA_uA, if_pos ⟨rfl, rfl⟩, i2_4]
      have v1 : z6 = drF (znF (dzF many.toNat (tA t 69 0))) := by rw [hp6_1, i2_4]
      have a1 : ∀ i, ¬ i = 0 → tA t6 69 i = tA t2 69 i := fun i hi => by rw [hp6_0, tA_uA, if_neg (fun q => hi q.2)]
      refine w_push kc_6 ?_
      refine w_rem (by omega) ?_
      refine w_istore (lv' := [some (.ref 68), some (.int (jI n)), some (.int (jI many)), some (.int (jI (z6 % 6))), dv o4, dv o5]) rfl ?_
      refine w_aload rfl ?_
      refine w_callV0I (oj_68 _).choose_spec rfl (c_X9_draw ok6) ?_
      rintro z7 t7 ⟨ok7, fq7, hp7_0, hp7_1, hp7_2, hp7_3⟩
      have fr7 := fr6.then fq7 (by simp)
      have v2 : z7 = drF (znF (znF (dzF many.toNat (tA t 69 0)))) := by rw [hp7_1, e1]
      have e1 : tA t7 69 0 = znF (znF (dzF many.toNat (tA t 69 0))) := by rw [hp7_0, tA_uA, if_pos ⟨rfl, rfl⟩, e1]
      have a2 : ∀ i, ¬ i = 0 → tA t7 69 i = tA t2 69 i := fun i hi => by rw [hp7_0, tA_uA, if_neg (fun q => hi q.2)]; exact a1 i hi
      refine w_push kc_7 ?_
      refine w_rem (by omega) ?_
      refine w_istore (lv' := [some (.ref 68), some (.int (jI n)), some (.int (jI many)), some (.int (jI (z6 % 6))), some (.int (jI (z7 % 7))), dv o5]) rfl ?_
      refine w_aload rfl ?_
      refine w_iload rfl ?_
      refine w_iload rfl ?_
      refine w_aload rfl ?_
      refine w_callV0I (oj_68 _).choose_spec rfl (c_X9_draw ok7) ?_
      rintro z8 t8 ⟨ok8, fq8, hp8_0, hp8_1, hp8_2, hp8_3⟩
      have fr8 := fr7.then fq8 (by simp)
      have v3 : z8 = drF (znF (znF (znF (dzF many.toNat (tA t 69 0))))) := by rw [hp8_1, e1]
      have e1 : tA t8 69 0 = znF (znF (znF (dzF many.toNat (tA t 69 0)))) := by rw [hp8_0, tA_uA, if_pos ⟨rfl, rfl⟩, e1]
      have a3 : ∀ i, ¬ i = 0 → tA t8 69 i = tA t2 69 i := fun i hi => by rw [hp8_0, tA_uA, if_neg (fun q => hi q.2)]; exact a2 i hi
      have n3 := a3 1 (by decide)
      refine w_push kc_7 ?_
      refine w_rem (by omega) ?_
      refine w_callV3I (oj_68 _).choose_spec rfl (e_X9_comes ok8 (by omega) (by omega) (by omega) (by omega) (by omega) (by omega) (by omega)) ?_
      rintro z9 t9 ⟨ok9, fq9, hp9_0, hp9_1, hp9_2, hp9_3, hp9_4, hp9_5, hp9_6, hp9_7⟩
      have fr9 := fr8.then fq9 (by simp)
      have ez : tA t9 69 0 = dzF (many + 1).toNat (tA t 69 0) := by rw [hp9_5 0 (by decide) (by omega), e1, show (many + 1).toNat = many.toNat + 1 by omega]; rfl
      have en : tA t9 69 1 = tA t2 69 1 + 1 := by rw [hp9_1, n3]
      have e2 : ∀ m : Nat, tA t9 69 (29 + 5 * m) = if m = (tA t 69 1 + many).toNat then kdF (tA t 69 0) many.toNat else tA t2 69 (29 + 5 * m) := fun m => by rw [comes_e (c := 29) (by decide) hp9_2 hp9_5 m, n3, i2_2, a3 _ (by omega), v1]; rfl
      have e3 : ∀ m : Nat, tA t9 69 (30 + 5 * m) = if m = (tA t 69 1 + many).toNat then ldF (tA t 69 0) many.toNat else tA t2 69 (30 + 5 * m) := fun m => by rw [comes_e (c := 30) (by decide) hp9_3 hp9_5 m, n3, i2_2, a3 _ (by omega), v2]; rfl
      have e4 : ∀ m : Nat, tA t9 69 (31 + 5 * m) = if m = (tA t 69 1 + many).toNat then rdF (tA t 69 0) many.toNat else tA t2 69 (31 + 5 * m) := fun m => by rw [comes_e (c := 31) (by decide) hp9_4 hp9_5 m, n3, i2_2, a3 _ (by omega), v3]; rfl
      have e6 : ∀ m : Nat, tA t9 69 (32 + 5 * m) = if m = (tA t 69 1 + many).toNat then 12 else tA t2 69 (32 + 5 * m) := fun m => by rw [comes_f (c := 32) (by decide) hp9_6 hp9_5 m, n3, i2_2, a3 _ (by omega)]
      have e7 : ∀ m : Nat, tA t9 69 (33 + 5 * m) = if m = (tA t 69 1 + many).toNat then 0 else tA t2 69 (33 + 5 * m) := fun m => by rw [comes_f (c := 33) (by decide) hp9_7 hp9_5 m, n3, i2_2, a3 _ (by omega)]
      have eo : ∀ i, ¬ i = 0 → ¬ i = 1 → (i < 29 ∨ 89 ≤ i) → tA t9 69 i = tA t 69 i := fun i h0 h1 h2 => by rw [hp9_5 i h1 (by omega), a3 i h0]; exact i2_8 i h0 h1 h2
      refine w_istore (lv' := [some (.ref 68), some (.int (jI n)), some (.int (jI many)), some (.int (jI (z6 % 6))), some (.int (jI (z7 % 7))), some (.int (jI z9))]) rfl ?_
      refine w_iinc (lv' := [some (.ref 68), some (.int (jI n)), some (.int (jI (many + 1))), some (.int (jI (z6 % 6))), some (.int (jI (z7 % 7))), some (.int (jI z9))]) kc_1 rfl rfl ?_
      refine w_goto ?_
      exact ih2 _ (many + 1) (some (z6 % 6)) (some (z7 % 7)) (some z9) t9 ok9 fr9 (by omega) (by omega) (by omega) (by omega) ez (deal_step hn0 i2_0 (by omega) i2_5 e2 rfl) (deal_step hn0 i2_0 (by omega) i2_6 e3 rfl) (deal_step hn0 i2_0 (by omega) i2_7 e4 rfl) eo (deal_step (F := fun _ => 12) hn0 i2_0 (by omega) i2_9 e6 rfl) (deal_step (F := fun _ => 0) hn0 i2_0 (by omega) i2_10 e7 rfl) (by omega) (by omega)
  exact key2 13 _ 0 none none none t ok fr (by omega) (by omega) (by omega) (by omega) rfl (by intro m; rw [if_neg (by omega)]) (by intro m; rw [if_neg (by omega)]) (by intro m; rw [if_neg (by omega)]) (fun _ _ _ _ => rfl) (by intro m; rw [if_neg (by omega)]) (by intro m; rw [if_neg (by omega)]) (by omega) (by omega)
set_option maxRecDepth 100000 in
set_option maxHeartbeats 4000000 in
theorem e_X9_days {d : Nat} {t : TS} {n : Int}  (ok : OK t) (q0 : WF t 69) (q1 : NZ t 69) (q2 : tI t 68 4 = -1) (q3 : -2147483648 ≤ n) (q4 : n ≤ 2147483647) (q5 : 0 ≤ tA t 69 2) (q6 : tA t 69 2 ≤ 9999) : CI (EX FU (d + 8)) 161 [.ref 68, .int (jI n)] (mk t) (fun z t' => OK t' ∧ Fr [(69, 100), (81, 100), (82, 100)] t t' ∧ (Dq t t') ∧ (((¬ (1 ≤ n ∧ n ≤ 100)) ∧ z = (-1000000001) ∧ (∀ i, tA t' 69 i = tA t 69 i)) ∨ ((1 ≤ n ∧ n ≤ 100) ∧ z = caA t 69 (min n (9999 - tA t 69 2)).toNat - caA t 69 0 ∧ (tA t' 69 0 = zdsF (min n (9999 - tA t 69 2)).toNat (tA t 69 0) (tA t 69 3)) ∧ (tA t' 69 2 = tA t 69 2 + min n (9999 - tA t 69 2)) ∧ (GRp t t' (dysF (tA t 69 1).toNat (OA t 69) (tA t 69 3) (tA t 69 0) (min n (9999 - tA t 69 2)).toNat (RPt t)))))) := by
  refine CI_ent (d := d + 7) (Bk := bX9_days) (nL := 3) rfl rfl rfl (Nat.le_of_ble_eq_true rfl) ?_
  show Rn _ 1000000 0 [some (.ref 68), some (.int (jI n)), none] [] _ _
  have fr : Fr [(69, 100), (81, 100), (82, 100)] t t := Fr.rf _ _
  have hn0 := (ok.a (ax_69 nr_1)).1
  have hn1 := (ok.a (ax_69 nr_1)).2
  have dq : Dq t t := Dq.rf t
  refine w_step rfl ?_
  refine w_iload rfl ?_
  refine w_push kc_1 ?_
  refine w_push kc_100 ?_
  refine w_callS3I rfl (c_X9_in ok (by omega) (by omega) (by omega) (by omega) (by omega) (by omega)) ?_
  rintro z1 t1 ⟨rfl, hp1_0⟩
  rcases hp1_0 with ⟨rfl, hp1_0⟩ | ⟨rfl, hp1_0⟩
  · skip
    refine w_ine (by omega) (fun h => absurd h (by omega)) (fun _ => ?_)
    refine w_push kc_m1000000001 ?_
    refine w_retI rfl ?_
    exact ⟨ok, fr, dq, (by first | (exact Or.inl ⟨by omega, by first | omega | (subst_vars; rfl), fun _ => rfl⟩) | (exact Or.inr (⟨by omega, by omega, e1, by omega, e3⟩)))⟩
  refine w_ine (by omega) (fun _ => ?_) (fun h => absurd (by omega) h)
  refine w_step rfl ?_
  refine w_aload rfl ?_
  refine w_callV0I (oj_68 _).choose_spec rfl (e_X9_manyLaid ok) ?_
  rintro z2 t2 ⟨rfl, hp2_0, hp2_1, hp2_2⟩
  have c0 : z2 = caA t 69 0 := by rw [hp2_2]; rfl
  refine w_istore (lv' := [some (.ref 68), some (.int (jI n)), some (.int (jI z2))]) rfl ?_
  refine w_aload rfl ?_
  refine w_push kc_9999 ?_
  refine w_aload rfl ?_
  refine w_getR (g_68_0 _) ?_
  refine w_push kc_2 ?_
  refine w_iald (i := 2) (ai_69 _) (by omega) (by omega) (ax_69 nr_2) ok (fun z3 hz3 hl3 hh3 => ?_)
  have en := hz3
  refine w_sub ?_
  refine w_push kc_0 ?_
  refine w_iload rfl ?_
  refine w_callS3I rfl (c_X9_within ok (by omega) (by omega) (by omega) (by omega) (by omega) (by omega) (by omega)) ?_
  rintro z4 t4 ⟨rfl, hp4_0⟩
  have ew : z4 = min n (9999 - tA t 69 2) := by omega
  refine w_callV1V (oj_68 _).choose_spec rfl (e_X9_goesOn ok q0 q1 (AW_no q2) (by omega) (by omega) (by omega)) ?_
  rintro t5 ⟨ok5, fq5, hp5_0, hp5_1, hp5_2, hp5_3⟩
  have fr5 := fr.then fq5 (by simp)
  have wf5 := q0.dq hp5_0
  have dq5 := dq.trans hp5_0
  have e1 := hp5_1
  rw [ew] at e1
  have e2 := hp5_2 (by omega) (by omega) (by omega)
  have e3 := hp5_3
  rw [ew] at e3
  refine w_aload rfl ?_
  refine w_callV0I (oj_68 _).choose_spec rfl (e_X9_manyLaid ok5) ?_
  rintro z6 t6 ⟨rfl, hp6_0, hp6_1, hp6_2⟩
  have c1 : z6 = caA t 69 (min n (9999 - tA t 69 2)).toNat := by rw [hp6_2]; exact gr_ca q2 e3
  refine w_iload rfl ?_
  refine w_sub ?_
  refine w_retI rfl ?_
  exact ⟨ok5, fr5, dq5, (by first | (exact Or.inl ⟨by omega, by first | omega | (subst_vars; rfl), fun _ => rfl⟩) | (exact Or.inr (⟨by omega, by omega, e1, by omega, e3⟩)))⟩
