set_option maxRecDepth 100000 in
set_option maxHeartbeats 4000000 in
theorem e_X5_add {d : Nat} {t : TS} {x : Int}  (ok : OK t) (q0 : -2147483648 ≤ x) (q1 : x ≤ 2147483647) (q2 : tI t 37 1 + 4 ≤ 96) : CV (EX FU (d + 1)) 61 [.ref 37, .int (jI x)] (mk t) (fun t' => OK t' ∧ Fr [(37, 1), (38, 100)] t t' ∧ (tI t' 37 1 = tI t 37 1 + 4) ∧ (∀ m : Nat, tA t' 38 m = if tI t 37 1 ≤ (m : Int) ∧ (m : Int) < tI t 37 1 + 4 then byF x (24 - 8 * ((m : Int) - tI t 37 1)) else tA t 38 m)) := by
  refine CV_ent (d := d + 0) (Bk := bX5_add) (nL := 3) rfl rfl rfl (Nat.le_of_ble_eq_true rfl) ?_
  show Rn _ 1000000 0 [some (.ref 37), some (.int (jI x)), none] [] _ _
  have fr : Fr [(37, 1), (38, 100)] t t := Fr.rf _ _
  refine w_step rfl ?_
  refine w_push kc_24 ?_
  refine w_istore (lv' := [some (.ref 37), some (.int (jI x)), some (.int (jI 24))]) rfl ?_
  refine w_goto ?_
  have key1 : ∀ (n1 M1 : Nat) (i : Int) (t1 : TS), OK t1 → Fr [(37, 1), (38, 100)] t t1 → (-8 ≤ i) → (i ≤ 24) → (i % 8 = 0) → (tI t1 37 1 = tI t 37 1 + (24 - i) / 8) → (∀ m : Nat, tA t1 38 m = if tI t 37 1 ≤ (m : Int) ∧ (m : Int) < tI t 37 1 + (24 - i) / 8 then byF x (24 - 8 * ((m : Int) - tI t 37 1)) else tA t 38 m) → i + 8 < (n1 : Int) → 60 * n1 + (1000) ≤ M1 → Rn (bX5_add (EX FU (d + 0))) M1 1 [some (.ref 37), some (.int (jI x)), some (.int (jI i))] [] (mk t1) (PV (fun t' => OK t' ∧ Fr [(37, 1), (38, 100)] t t' ∧ (tI t' 37 1 = tI t 37 1 + 4) ∧ (∀ m : Nat, tA t' 38 m = if tI t 37 1 ≤ (m : Int) ∧ (m : Int) < tI t 37 1 + 4 then byF x (24 - 8 * ((m : Int) - tI t 37 1)) else tA t 38 m))) := by
    intro n1
    induction n1 with
    | zero => intro M1 i t1 ok1 fr1 i1_0 i1_1 i1_2 i1_3 i1_4 v1 f1; exfalso; omega
    | succ n1 ih1 =>
      intro M1 i t1 ok1 fr1 i1_0 i1_1 i1_2 i1_3 i1_4 v1 f1
      obtain ⟨M1, rfl⟩ : ∃ m, M1 = m + 60 := ⟨M1 - 60, by omega⟩
      refine w_step rfl ?_
      refine w_iload rfl ?_
      refine w_ilt (by omega) (fun h2 => ?_) (fun h2 => ?_)
      · skip
        refine w_step rfl ?_
        refine w_retV ?_
        exact ⟨ok1, fr1, (by omega), (by intro m; rw [i1_4 m]; congr 1; apply propext; omega)⟩
      refine w_aload rfl ?_
      refine w_getI (g_37_1 _) fe_37_1 ok1 (fun z3 hz3 hl3 hh3 => ?_)
      refine w_push kc_96 ?_
      refine w_cge (by omega) (fun h4 => ?_) (fun h4 => ?_)
      · skip
        refine w_step rfl ?_
        refine w_retV ?_
        exact ⟨ok1, fr1, (by omega), (by intro m; rw [i1_4 m]; congr 1; apply propext; omega)⟩
      refine w_aload rfl ?_
      refine w_getR (g_37_0 _) ?_
      refine w_aload rfl ?_
      refine w_getI (g_37_1 _) fe_37_1 ok1 (fun z5 hz5 hl5 hh5 => ?_)
      have hz37 := hz5
      refine w_iload rfl ?_
      refine w_iload rfl ?_
      refine w_bin (fun z6 hz6 hl6 hh6 => ?_)
      refine w_push kc_255 ?_
      refine w_bin (fun z7 hz7 hl7 hh7 => ?_)
      have hu7 := ah_and255 hz7
      have hb255 : z7 = byF x i := by rw [hz7, hz6]; rfl
      refine w_iast (i := (z5).toNat) (ai_38 _) rfl (by omega) (by omega) (ae_38 _) ok1 (by omega) (fun t8 ht8 ok8 => ?_)
      have fr8 := fr1.uA ht8 (by simp)
      have ew : tI t8 37 1 = tI t 37 1 + (24 - i) / 8 := by rw [ht8, tI_uA]; exact i1_3
      refine w_aload rfl ?_
      refine w_dupR ?_
      refine w_getI (g_37_1 _) fe_37_1 ok8 (fun z9 hz9 hl9 hh9 => ?_)
      refine w_push kc_1 ?_
      refine w_add ?_
      refine w_putI (p_37_1 _) fe_37_1 ok8 (by omega) (fun t10 ht10 ok10 => ?_)
      have fr10 := fr8.uI ht10 (by simp)
      have ex : tI t10 37 1 = tI t 37 1 + (24 - i) / 8 + 1 := by rw [ht10, tI_uI, if_pos ⟨rfl, rfl⟩]; omega
      have ew2 : ∀ m, tA t10 38 m = tA t8 38 m := fun m => by rw [ht10]; rfl
      refine w_iinc (lv' := [some (.ref 37), some (.int (jI x)), some (.int (jI (i + (-8))))]) kc_m8 rfl rfl ?_
      refine w_goto ?_
      exact ih1 _ (i + (-8)) t10 ok10 fr10 (by omega) (by omega) (by omega) (by omega) (by_s (by omega) i1_3 i1_4 hz37 ht8 ew2 hb255 (ok.f fe_37_1).1) (by omega) (by omega)
  exact key1 40 _ 24 t ok fr (by omega) (by omega) (by omega) (by omega) (by intro m; rw [if_neg (by omega)]) (by omega) (by omega)
set_option maxRecDepth 100000 in
set_option maxHeartbeats 4000000 in
theorem e_X8_feed {d : Nat} {t : TS} {x y w : Int}  (ok : OK t) (q0 : -2147483648 ≤ x) (q1 : x ≤ 2147483647) (q2 : -2147483648 ≤ y) (q3 : y ≤ 2147483647) (q4 : -2147483648 ≤ w) (q5 : w ≤ 2147483647) : CI (EX FU (d + 2)) 100 [.ref 0, .int (jI x), .int (jI y), .int (jI w)] (mk t) (fun z t' => OK t' ∧ Fr [(37, 1), (38, 100)] t t' ∧ (((96 < tI t 37 1 + 12) ∧ z = (-1000000003) ∧ t' = t) ∨ ((tI t 37 1 + 12 ≤ 96) ∧ z = tI t 37 1 + 12 ∧ (tI t' 37 1 = tI t 37 1 + 12) ∧ (∀ m : Nat, tA t' 38 m = if tI t 37 1 ≤ (m : Int) ∧ (m : Int) < tI t 37 1 + 12 then fbF x y w (m - (tI t 37 1).toNat) else tA t 38 m)))) := by
  refine CI_ent (d := d + 1) (Bk := bX8_feed) (nL := 4) rfl rfl rfl (Nat.le_of_ble_eq_true rfl) ?_
  show Rn _ 1000000 0 [some (.ref 0), some (.int (jI x)), some (.int (jI y)), some (.int (jI w))] [] _ _
  have fr : Fr [(37, 1), (38, 100)] t t := Fr.rf _ _
  have hn0 := (ok.f fe_1_10).1
  have hn1 := (ok.f fe_1_10).2
  refine w_step rfl ?_
  refine w_aload rfl ?_
  refine w_getR (g_0_3 _) ?_
  refine w_getI (g_37_1 _) fe_37_1 ok (fun z1 hz1 hl1 hh1 => ?_)
  refine w_push kc_12 ?_
  refine w_add ?_
  refine w_push kc_96 ?_
  refine w_cle (by omega) (fun h2 => ?_) (fun h2 => ?_)
  · skip
    refine w_step rfl ?_
    refine w_aload rfl ?_
    refine w_getR (g_0_3 _) ?_
    refine w_iload rfl ?_
    refine w_callV1V (oj_37 _).choose_spec rfl (e_X5_add ok (by omega) (by omega) (by omega)) ?_
    rintro t3 ⟨ok3, fq3, hp3_0, hp3_1⟩
    have fr3 := fr.then fq3 (by simp)
    have a1 := hp3_0
    have b1 := hp3_1
    refine w_aload rfl ?_
    refine w_getR (g_0_3 _) ?_
    refine w_iload rfl ?_
    refine w_callV1V (oj_37 _).choose_spec rfl (e_X5_add ok3 (by omega) (by omega) (by omega)) ?_
    rintro t4 ⟨ok4, fq4, hp4_0, hp4_1⟩
    have fr4 := fr3.then fq4 (by simp)
    have a2 := hp4_0
    have b2 := hp4_1
    refine w_aload rfl ?_
    refine w_getR (g_0_3 _) ?_
    refine w_iload rfl ?_
    refine w_callV1V (oj_37 _).choose_spec rfl (e_X5_add ok4 (by omega) (by omega) (by omega)) ?_
    rintro t5 ⟨ok5, fq5, hp5_0, hp5_1⟩
    have fr5 := fr4.then fq5 (by simp)
    have a3 := hp5_0
    have b3 := hp5_1
    refine w_aload rfl ?_
    refine w_getR (g_0_3 _) ?_
    refine w_getI (g_37_1 _) fe_37_1 ok5 (fun z6 hz6 hl6 hh6 => ?_)
    refine w_retI rfl ?_
    exact ⟨ok5, fr5, (by first | (exact Or.inl ⟨by omega, by first | omega | (subst_vars; rfl), rfl⟩) | (exact Or.inr (⟨by omega, by first | omega | (subst_vars; rfl), by omega, fd_c (ok.f fe_37_1).1 a1 a2 b1 b2 b3⟩)))⟩
  refine w_push kc_m1000000003 ?_
  refine w_retI rfl ?_
  exact ⟨ok, fr, (by first | (exact Or.inl ⟨by omega, by first | omega | (subst_vars; rfl), rfl⟩) | (exact Or.inr (⟨by omega, by first | omega | (subst_vars; rfl), by omega, fd_c (ok.f fe_37_1).1 a1 a2 b1 b2 b3⟩)))⟩
