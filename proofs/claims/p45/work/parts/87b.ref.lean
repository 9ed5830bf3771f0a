set_option maxRecDepth 100000 in
set_option maxHeartbeats 4000000 in
theorem e_X9_holder {d : Nat} {t : TS} {p : Int}  (ok : OK t) (q0 : -2147483648 ≤ p) (q1 : p ≤ 2147483647) : CI (EX FU (d + 2)) 149 [.ref 68, .int (jI p)] (mk t) (fun z t' => t = t' ∧ (-1 ≤ z) ∧ (z ≤ 11) ∧ (z = RHp t p)) := by
  refine CI_ent (d := d + 1) (Bk := bX9_holder) (nL := 4) rfl rfl rfl (Nat.le_of_ble_eq_true rfl) ?_
  show Rn _ 1000000 0 [some (.ref 68), some (.int (jI p)), none, none] [] _ _
  have hn0 := (ok.a (ax_69 nr_1)).1
  have hn1 := (ok.a (ax_69 nr_1)).2
  refine w_step rfl ?_
  refine w_push kc_m1 ?_
  refine w_istore (lv' := [some (.ref 68), some (.int (jI p)), some (.int (jI (-1))), none]) rfl ?_
  refine w_push kc_0 ?_
  refine w_istore (lv' := [some (.ref 68), some (.int (jI p)), some (.int (jI (-1))), some (.int (jI 0))]) rfl ?_
  refine w_goto ?_
  have key1 : ∀ (n1 M1 : Nat) (found : Int) (s : Int), (-1 ≤ found) → (found ≤ 11) → (0 ≤ s) → (s ≤ 12) → (s ≤ tA t 69 1) → (found = hoF (fun s => tA t 69 (32 + 5 * s)) p s.toNat) → 12 - s < (n1 : Int) → 60 * n1 + (1000) ≤ M1 → Rn (bX9_holder (EX FU (d + 1))) M1 1 [some (.ref 68), some (.int (jI p)), some (.int (jI found)), some (.int (jI s))] [] (mk t) (PI (fun z t' => t = t' ∧ (-1 ≤ z) ∧ (z ≤ 11) ∧ (z = RHp t p))) := by
    intro n1
    induction n1 with
    | zero => intro M1 found s i1_0 i1_1 i1_2 i1_3 i1_4 i1_5 v1 f1; exfalso; omega
    | succ n1 ih1 =>
      intro M1 found s i1_0 i1_1 i1_2 i1_3 i1_4 i1_5 v1 f1
      obtain ⟨M1, rfl⟩ : ∃ m, M1 = m + 60 := ⟨M1 - 60, by omega⟩
      refine w_step rfl ?_
      refine w_iload rfl ?_
      refine w_aload rfl ?_
      refine w_getR (g_68_0 _) ?_
      refine w_push kc_1 ?_
      refine w_iald (i := 1) (ai_69 _) (by omega) (by omega) (ax_69 nr_1) ok (fun z1 hz1 hl1 hh1 => ?_)
      refine w_cge (by omega) (fun h2 => ?_) (fun h2 => ?_)
      · skip
        refine w_step rfl ?_
        refine w_iload rfl ?_
        refine w_retI rfl ?_
        exact ⟨rfl, (by omega), (by omega), (by unfold RHp RN; rw [i1_5]; congr 1; omega)⟩
      refine w_aload rfl ?_
      refine w_iload rfl ?_
      refine w_push kc_3 ?_
      refine w_callV2I (oj_68 _).choose_spec rfl (c_X9_of ok (by omega) (by omega) (by omega) (by omega)) ?_
      rintro z3 t3 ⟨rfl, hp3_0, hp3_1, hp3_2⟩
      have hr3 := of_r3 (s := s) ok (by omega)
      have eo : z3 = tA t 69 (32 + 5 * s.toNat) := by rw [hp3_0]; congr 1; omega
      refine w_iload rfl ?_
      refine w_cne (by omega) (fun h4 => ?_) (fun h4 => ?_)
      · skip
        refine w_step rfl ?_
        refine w_iload rfl ?_
        refine w_goto ?_
        refine w_step rfl ?_
        refine w_istore (lv' := [some (.ref 68), some (.int (jI p)), some (.int (jI found)), some (.int (jI s))]) rfl ?_
        refine w_iinc (lv' := [some (.ref 68), some (.int (jI p)), some (.int (jI found)), some (.int (jI (s + 1)))]) kc_1 rfl rfl ?_
        refine w_goto ?_
        exact ih1 _ found (s + 1)  (by omega) (by omega) (by omega) (by omega) (by omega) (by rw [show (s + 1).toNat = s.toNat + 1 by omega]; unfold hoF; first | (rw [if_pos (by rw [← eo]; omega)]; omega) | (rw [if_neg (by rw [← eo]; omega)]; exact i1_5)) (by omega) (by omega)
      refine w_iload rfl ?_
      refine w_goto ?_
      refine w_step rfl ?_
      refine w_istore (lv' := [some (.ref 68), some (.int (jI p)), some (.int (jI s)), some (.int (jI s))]) rfl ?_
      refine w_iinc (lv' := [some (.ref 68), some (.int (jI p)), some (.int (jI s)), some (.int (jI (s + 1)))]) kc_1 rfl rfl ?_
      refine w_goto ?_
      exact ih1 _ s (s + 1)  (by omega) (by omega) (by omega) (by omega) (by omega) (by rw [show (s + 1).toNat = s.toNat + 1 by omega]; unfold hoF; first | (rw [if_pos (by rw [← eo]; omega)]; omega) | (rw [if_neg (by rw [← eo]; omega)]; exact i1_5)) (by omega) (by omega)
  exact key1 13 _ (-1) 0  (by omega) (by omega) (by omega) (by omega) (by omega) rfl (by omega) (by omega)
set_option maxRecDepth 100000 in
set_option maxHeartbeats 4000000 in
theorem e_X9_manyLaid {d : Nat} {t : TS}  (ok : OK t) : CI (EX FU (d + 2)) 157 [.ref 68] (mk t) (fun z t' => t = t' ∧ (0 ≤ z) ∧ (z ≤ 12) ∧ (z = caF (AA t 69) (tA t 69 1).toNat)) := by
  refine CI_ent (d := d + 1) (Bk := bX9_manyLaid) (nL := 3) rfl rfl rfl (Nat.le_of_ble_eq_true rfl) ?_
  show Rn _ 1000000 0 [some (.ref 68), none, none] [] _ _
  have hn0 := (ok.a (ax_69 nr_1)).1
  have hn1 := (ok.a (ax_69 nr_1)).2
  refine w_step rfl ?_
  refine w_push kc_0 ?_
  refine w_istore (lv' := [some (.ref 68), some (.int (jI 0)), none]) rfl ?_
  refine w_push kc_0 ?_
  refine w_istore (lv' := [some (.ref 68), some (.int (jI 0)), some (.int (jI 0))]) rfl ?_
  refine w_goto ?_
  have key1 : ∀ (n1 M1 : Nat) (n : Int) (s : Int), (0 ≤ s) → (s ≤ 12) → (0 ≤ n) → (n ≤ s) → (s ≤ tA t 69 1) → (n = caF (AA t 69) s.toNat) → 12 - s < (n1 : Int) → 60 * n1 + (1000) ≤ M1 → Rn (bX9_manyLaid (EX FU (d + 1))) M1 1 [some (.ref 68), some (.int (jI n)), some (.int (jI s))] [] (mk t) (PI (fun z t' => t = t' ∧ (0 ≤ z) ∧ (z ≤ 12) ∧ (z = caF (AA t 69) (tA t 69 1).toNat))) := by
    intro n1
    induction n1 with
    | zero => intro M1 n s i1_0 i1_1 i1_2 i1_3 i1_4 i1_5 v1 f1; exfalso; omega
    | succ n1 ih1 =>
      intro M1 n s i1_0 i1_1 i1_2 i1_3 i1_4 i1_5 v1 f1
      obtain ⟨M1, rfl⟩ : ∃ m, M1 = m + 60 := ⟨M1 - 60, by omega⟩
      refine w_step rfl ?_
      refine w_iload rfl ?_
      refine w_aload rfl ?_
      refine w_getR (g_68_0 _) ?_
      refine w_push kc_1 ?_
      refine w_iald (i := 1) (ai_69 _) (by omega) (by omega) (ax_69 nr_1) ok (fun z1 hz1 hl1 hh1 => ?_)
      refine w_cge (by omega) (fun h2 => ?_) (fun h2 => ?_)
      · skip
        refine w_step rfl ?_
        refine w_iload rfl ?_
        refine w_retI rfl ?_
        exact ⟨rfl, (by omega), (by omega), (by rw [i1_5]; congr 1; omega)⟩
      refine w_iload rfl ?_
      refine w_aload rfl ?_
      refine w_iload rfl ?_
      refine w_push kc_3 ?_
      refine w_callV2I (oj_68 _).choose_spec rfl (c_X9_of ok (by omega) (by omega) (by omega) (by omega)) ?_
      rintro z3 t3 ⟨rfl, hp3_0, hp3_1, hp3_2⟩
      have hr3 := of_r3 (s := s) ok (by omega)
      have eo : z3 = AA t 69 s.toNat := by rw [hp3_0]; unfold AA; congr 1; omega
      refine w_push kc_12 ?_
      refine w_cne (by omega) (fun h4 => ?_) (fun h4 => ?_)
      · skip
        refine w_step rfl ?_
        refine w_push kc_1 ?_
        refine w_goto ?_
        refine w_step rfl ?_
        refine w_add ?_
        refine w_istore (lv' := [some (.ref 68), some (.int (jI (n + 1))), some (.int (jI s))]) rfl ?_
        refine w_iinc (lv' := [some (.ref 68), some (.int (jI (n + 1))), some (.int (jI (s + 1)))]) kc_1 rfl rfl ?_
        refine w_goto ?_
        exact ih1 _ (n + 1) (s + 1)  (by omega) (by omega) (by omega) (by omega) (by omega) (by rw [show (s + 1).toNat = s.toNat + 1 by omega]; unfold caF; first | (rw [if_pos (by rw [← eo]; omega)]; omega) | (rw [if_neg (by rw [← eo]; omega)]; omega)) (by omega) (by omega)
      refine w_push kc_0 ?_
      refine w_goto ?_
      refine w_step rfl ?_
      refine w_add ?_
      refine w_istore (lv' := [some (.ref 68), some (.int (jI (n + 0))), some (.int (jI s))]) rfl ?_
      refine w_iinc (lv' := [some (.ref 68), some (.int (jI (n + 0))), some (.int (jI (s + 1)))]) kc_1 rfl rfl ?_
      refine w_goto ?_
      exact ih1 _ (n + 0) (s + 1)  (by omega) (by omega) (by omega) (by omega) (by omega) (by rw [show (s + 1).toNat = s.toNat + 1 by omega]; unfold caF; first | (rw [if_pos (by rw [← eo]; omega)]; omega) | (rw [if_neg (by rw [← eo]; omega)]; omega)) (by omega) (by omega)
  exact key1 13 _ 0 0  (by omega) (by omega) (by omega) (by omega) (by omega) rfl (by omega) (by omega)
set_option maxRecDepth 100000 in
set_option maxHeartbeats 4000000 in
theorem e_X9_laysIn {d : Nat} {t : TS} {r : Int}  (ok : OK t) (q0 : WF t 69) (q1 : NZ t 69) (q2 : AWp t) (q3 : 0 ≤ r) (q4 : r ≤ 3) : CV (EX FU (d + 5)) 158 [.ref 68, .int (jI r)] (mk t) (fun t' => OK t' ∧ Fr [(69, 100), (81, 100), (82, 100)] t t' ∧ (Dq t t') ∧ (tA t' 69 0 = tA t 69 0) ∧ (tA t' 69 2 = tA t 69 2) ∧ (tA t' 69 3 = tA t 69 3) ∧ (GRp t t' (lyF (tA t 69 1).toNat (OA t 69) r (RPt t)))) := by
  refine CV_ent (d := d + 4) (Bk := bX9_laysIn) (nL := 9) rfl rfl rfl (Nat.le_of_ble_eq_true rfl) ?_
  show Rn _ 1000000 0 [some (.ref 68), some (.int (jI r)), none, none, none, none, none, none, none] [] _ _
  have fr : Fr [(69, 100), (81, 100), (82, 100)] t t := Fr.rf _ _
  have hn0 := (ok.a (ax_69 nr_1)).1
  have hn1 := (ok.a (ax_69 nr_1)).2
  have dq : Dq t t := Dq.rf t
  refine w_step rfl ?_
  refine w_push kc_3 ?_
  refine w_iload rfl ?_
  refine w_mul ?_
  refine w_istore (lv' := [some (.ref 68), some (.int (jI r)), some (.int (jI (3 * r))), none, none, none, none, none, none]) rfl ?_
  refine w_goto ?_
  have key1 : ∀ (n1 M1 : Nat) (p : Int), (3 * r ≤ p) → (p ≤ 3 * r + 3) → (∀ q : Int, 3 * r ≤ q → q < p → 0 ≤ RHp t q) → 12 - p < (n1 : Int) → 60 * n1 + (50000) ≤ M1 → Rn (bX9_laysIn (EX FU (d + 4))) M1 1 [some (.ref 68), some (.int (jI r)), some (.int (jI p)), none, none, none, none, none, none] [] (mk t) (PV (fun t' => OK t' ∧ Fr [(69, 100), (81, 100), (82, 100)] t t' ∧ (Dq t t') ∧ (tA t' 69 0 = tA t 69 0) ∧ (tA t' 69 2 = tA t 69 2) ∧ (tA t' 69 3 = tA t 69 3) ∧ (GRp t t' (lyF (tA t 69 1).toNat (OA t 69) r (RPt t))))) := by
    intro n1
    induction n1 with
    | zero => intro M1 p i1_0 i1_1 i1_2 v1 f1; exfalso; omega
    | succ n1 ih1 =>
      intro M1 p i1_0 i1_1 i1_2 v1 f1
      obtain ⟨M1, rfl⟩ : ∃ m, M1 = m + 60 := ⟨M1 - 60, by omega⟩
      refine w_step rfl ?_
      refine w_iload rfl ?_
      refine w_push kc_3 ?_
      refine w_iload rfl ?_
      refine w_mul ?_
      refine w_push kc_3 ?_
      refine w_add ?_
      refine w_cge (by omega) (fun h1 => ?_) (fun h1 => ?_)
      · skip
        refine w_step rfl ?_
        refine w_push kc_m1 ?_
        refine w_istore (lv' := [some (.ref 68), some (.int (jI r)), some (.int (jI p)), some (.int (jI (-1))), none, none, none, none, none]) rfl ?_
        refine w_push kc_0 ?_
        refine w_istore (lv' := [some (.ref 68), some (.int (jI r)), some (.int (jI p)), some (.int (jI (-1))), some (.int (jI 0)), none, none, none, none]) rfl ?_
        refine w_push kc_0 ?_
        refine w_istore (lv' := [some (.ref 68), some (.int (jI r)), some (.int (jI p)), some (.int (jI (-1))), some (.int (jI 0)), some (.int (jI 0)), none, none, none]) rfl ?_
        refine w_push kc_0 ?_
        refine w_istore (lv' := [some (.ref 68), some (.int (jI r)), some (.int (jI p)), some (.int (jI (-1))), some (.int (jI 0)), some (.int (jI 0)), some (.int (jI 0)), none, none]) rfl ?_
        refine w_goto ?_
        have key3 : ∀ (n3 M3 : Nat) (best : Int) (least : Int) (way : Int) (k : Int) (o7 : Option Int) (o8 : Option Int) (t2 : TS), OK t2 → Fr [(69, 100), (81, 100), (82, 100)] t t2 → WF t2 69 → Dq t t2 → (-1 ≤ best) → (best ≤ 11) → (0 ≤ least) → (least ≤ 198) → (0 ≤ way) → (way ≤ 1) → (0 ≤ k) → (k ≤ 24) → (best < 0 ∨ p < 3 * r + 3) → (∀ i, tA t2 69 i = tA t 69 i) → (lb1 (fun s u => OA t 69 s p.toNat u) (RPt t).1 k.toNat best least way) → (k ≤ 2 * tA t 69 1) → (p < 3 * r + 3 ∨ (best = -1 ∧ k = 0)) → (tI t2 68 4 = tI t 68 4) → 24 - k < (n3 : Int) → 60 * n3 + (1000) ≤ M3 → Rn (bX9_laysIn (EX FU (d + 4))) M3 3 [some (.ref 68), some (.int (jI r)), some (.int (jI p)), some (.int (jI best)), some (.int (jI least)), some (.int (jI way)), some (.int (jI k)), dv o7, dv o8] [] (mk t2) (PV (fun t' => OK t' ∧ Fr [(69, 100), (81, 100), (82, 100)] t t' ∧ (Dq t t') ∧ (tA t' 69 0 = tA t 69 0) ∧ (tA t' 69 2 = tA t 69 2) ∧ (tA t' 69 3 = tA t 69 3) ∧ (GRp t t' (lyF (tA t 69 1).toNat (OA t 69) r (RPt t))))) := by
          intro n3
          induction n3 with
          | zero => intro M3 best least way k o7 o8 t2 ok2 fr2 wf2 dq2 i3_0 i3_1 i3_2 i3_3 i3_4 i3_5 i3_6 i3_7 i3_8 i3_9 i3_10 i3_11 i3_12 i3_13 v3 f3; exfalso; omega
          | succ n3 ih3 =>
            intro M3 best least way k o7 o8 t2 ok2 fr2 wf2 dq2 i3_0 i3_1 i3_2 i3_3 i3_4 i3_5 i3_6 i3_7 i3_8 i3_9 i3_10 i3_11 i3_12 i3_13 v3 f3
            obtain ⟨M3, rfl⟩ : ∃ m, M3 = m + 60 := ⟨M3 - 60, by omega⟩
            have c4 : tI t2 68 4 = tI t 68 4 := fr2.1 68 4 (by simp)
            have en1 : tA t2 69 1 = tA t 69 1 := i3_9 1
            refine w_step rfl ?_
            refine w_iload rfl ?_
            refine w_push kc_2 ?_
            refine w_aload rfl ?_
            refine w_getR (g_68_0 _) ?_
            refine w_push kc_1 ?_
            refine w_iald (i := 1) (ai_69 _) (by omega) (by omega) (ax_69 nr_1) ok2 (fun z3 hz3 hl3 hh3 => ?_)
            refine w_mul ?_
            refine w_cge (by omega) (fun h4 => ?_) (fun h4 => ?_)
            · skip
              refine w_step rfl ?_
              have hbk : best = -1 ∨ k = 2 * tA t 69 1 := by omega
              refine w_iload rfl ?_
              refine w_ilt (by omega) (fun h5 => ?_) (fun h5 => ?_)
              · skip
                refine w_step rfl ?_
                refine w_retV ?_
                exact ⟨ok2, fr2, dq2, (by first | (rw [w2, tA_uA, if_neg (by omega), w1, tA_uA, if_neg (by omega)]; exact i3_9 _) | exact i3_9 _), (by first | (rw [w2, tA_uA, if_neg (by omega), w1, tA_uA, if_neg (by omega)]; exact i3_9 _) | exact i3_9 _), (by first | (rw [w2, tA_uA, if_neg (by omega), w1, tA_uA, if_neg (by omega)]; exact i3_9 _) | exact i3_9 _), (by first | exact lr_0 ok (GRp.rf q2) (by omega) (fun q h1 h2 => i1_2 q h1 (by omega)) i3_9 i3_13 | exact lr_a ok (GRp.rf q2) (by omega) (by omega) i1_2 (by omega) i3_10 (by omega) (by omega) i3_9 i3_13 | exact lr_b ok (GRp.rf q2) (by omega) (by omega) i1_2 (by omega) i3_10 (by omega) (by omega) (fun i => by rw [w2, tA_uA, w1, tA_uA, i3_9, show (29 + 5 * best + 4).toNat = 33 + 5 * best.toNat by omega, show (29 + 5 * best + 3).toNat = 32 + 5 * best.toNat by omega]; simp) (by rw [w2, tI_uA, w1, tI_uA]; exact i3_13) | omega)⟩
              refine w_aload rfl ?_
              refine w_getR (g_68_0 _) ?_
              refine w_push kc_29 ?_
              refine w_push kc_5 ?_
              refine w_iload rfl ?_
              refine w_mul ?_
              refine w_add ?_
              refine w_push kc_3 ?_
              refine w_add ?_
              refine w_iload rfl ?_
              refine w_iast (i := (((29 + (5 * best)) + 3)).toNat) (ai_69 _) rfl (by omega) (by omega) (ax_69 (nr_S3 (s := best.toNat) (by omega))) ok2 (by omega) (fun t6 ht6 ok6 => ?_)
              have fr6 := fr2.uA ht6 (by simp)
              have wf6 := wf2.u69 ht6 (by omega)
              have dq6 := dq2.u69 ht6 (by omega)
              have w1 := ht6
              refine w_aload rfl ?_
              refine w_getR (g_68_0 _) ?_
              refine w_push kc_29 ?_
              refine w_push kc_5 ?_
              refine w_iload rfl ?_
              refine w_mul ?_
              refine w_add ?_
              refine w_push kc_4 ?_
              refine w_add ?_
              refine w_iload rfl ?_
              refine w_iast (i := (((29 + (5 * best)) + 4)).toNat) (ai_69 _) rfl (by omega) (by omega) (ax_69 (nr_S4 (s := best.toNat) (by omega))) ok6 (by omega) (fun t7 ht7 ok7 => ?_)
              have fr7 := fr6.uA ht7 (by simp)
              have wf7 := wf6.u69 ht7 (by omega)
              have dq7 := dq6.u69 ht7 (by omega)
              have w2 := ht7
              refine w_goto ?_
              refine w_step rfl ?_
              refine w_retV ?_
              exact ⟨ok7, fr7, dq7, (by first | (rw [w2, tA_uA, if_neg (by omega), w1, tA_uA, if_neg (by omega)]; exact i3_9 _) | exact i3_9 _), (by first | (rw [w2, tA_uA, if_neg (by omega), w1, tA_uA, if_neg (by omega)]; exact i3_9 _) | exact i3_9 _), (by first | (rw [w2, tA_uA, if_neg (by omega), w1, tA_uA, if_neg (by omega)]; exact i3_9 _) | exact i3_9 _), (by first | exact lr_0 ok (GRp.rf q2) (by omega) (fun q h1 h2 => i1_2 q h1 (by omega)) i3_9 i3_13 | exact lr_a ok (GRp.rf q2) (by omega) (by omega) i1_2 (by omega) i3_10 (by omega) (by omega) i3_9 i3_13 | exact lr_b ok (GRp.rf q2) (by omega) (by omega) i1_2 (by omega) i3_10 (by omega) (by omega) (fun i => by rw [w2, tA_uA, w1, tA_uA, i3_9, show (29 + 5 * best + 4).toNat = 33 + 5 * best.toNat by omega, show (29 + 5 * best + 3).toNat = 32 + 5 * best.toNat by omega]; simp) (by rw [w2, tI_uA, w1, tI_uA]; exact i3_13) | omega)⟩
            refine w_iload rfl ?_
            refine w_push kc_3 ?_
            refine w_iload rfl ?_
            refine w_mul ?_
            refine w_push kc_3 ?_
            refine w_add ?_
            refine w_cge (by omega) (fun h8 => ?_) (fun h8 => ?_)
            · skip
              refine w_step rfl ?_
              have hbk : best = -1 ∨ k = 2 * tA t 69 1 := by omega
              refine w_iload rfl ?_
              refine w_ilt (by omega) (fun h9 => ?_) (fun h9 => ?_)
              · skip
                refine w_step rfl ?_
                refine w_retV ?_
                exact ⟨ok2, fr2, dq2, (by first | (rw [w2, tA_uA, if_neg (by omega), w1, tA_uA, if_neg (by omega)]; exact i3_9 _) | exact i3_9 _), (by first | (rw [w2, tA_uA, if_neg (by omega), w1, tA_uA, if_neg (by omega)]; exact i3_9 _) | exact i3_9 _), (by first | (rw [w2, tA_uA, if_neg (by omega), w1, tA_uA, if_neg (by omega)]; exact i3_9 _) | exact i3_9 _), (by first | exact lr_0 ok (GRp.rf q2) (by omega) (fun q h1 h2 => i1_2 q h1 (by omega)) i3_9 i3_13 | exact lr_a ok (GRp.rf q2) (by omega) (by omega) i1_2 (by omega) i3_10 (by omega) (by omega) i3_9 i3_13 | exact lr_b ok (GRp.rf q2) (by omega) (by omega) i1_2 (by omega) i3_10 (by omega) (by omega) (fun i => by rw [w2, tA_uA, w1, tA_uA, i3_9, show (29 + 5 * best + 4).toNat = 33 + 5 * best.toNat by omega, show (29 + 5 * best + 3).toNat = 32 + 5 * best.toNat by omega]; simp) (by rw [w2, tI_uA, w1, tI_uA]; exact i3_13) | omega)⟩
              refine w_aload rfl ?_
              refine w_getR (g_68_0 _) ?_
              refine w_push kc_29 ?_
              refine w_push kc_5 ?_
              refine w_iload rfl ?_
              refine w_mul ?_
              refine w_add ?_
              refine w_push kc_3 ?_
              refine w_add ?_
              refine w_iload rfl ?_
              refine w_iast (i := (((29 + (5 * best)) + 3)).toNat) (ai_69 _) rfl (by omega) (by omega) (ax_69 (nr_S3 (s := best.toNat) (by omega))) ok2 (by omega) (fun t10 ht10 ok10 => ?_)
              have fr10 := fr2.uA ht10 (by simp)
              have wf10 := wf2.u69 ht10 (by omega)
              have dq10 := dq2.u69 ht10 (by omega)
              have w1 := ht10
              refine w_aload rfl ?_
              refine w_getR (g_68_0 _) ?_
              refine w_push kc_29 ?_
              refine w_push kc_5 ?_
              refine w_iload rfl ?_
              refine w_mul ?_
              refine w_add ?_
              refine w_push kc_4 ?_
              refine w_add ?_
              refine w_iload rfl ?_
              refine w_iast (i := (((29 + (5 * best)) + 4)).toNat) (ai_69 _) rfl (by omega) (by omega) (ax_69 (nr_S4 (s := best.toNat) (by omega))) ok10 (by omega) (fun t11 ht11 ok11 => ?_)
              have fr11 := fr10.uA ht11 (by simp)
              have wf11 := wf10.u69 ht11 (by omega)
              have dq11 := dq10.u69 ht11 (by omega)
              have w2 := ht11
              refine w_goto ?_
              refine w_step rfl ?_
              refine w_retV ?_
              exact ⟨ok11, fr11, dq11, (by first | (rw [w2, tA_uA, if_neg (by omega), w1, tA_uA, if_neg (by omega)]; exact i3_9 _) | exact i3_9 _), (by first | (rw [w2, tA_uA, if_neg (by omega), w1, tA_uA, if_neg (by omega)]; exact i3_9 _) | exact i3_9 _), (by first | (rw [w2, tA_uA, if_neg (by omega), w1, tA_uA, if_neg (by omega)]; exact i3_9 _) | exact i3_9 _), (by first | exact lr_0 ok (GRp.rf q2) (by omega) (fun q h1 h2 => i1_2 q h1 (by omega)) i3_9 i3_13 | exact lr_a ok (GRp.rf q2) (by omega) (by omega) i1_2 (by omega) i3_10 (by omega) (by omega) i3_9 i3_13 | exact lr_b ok (GRp.rf q2) (by omega) (by omega) i1_2 (by omega) i3_10 (by omega) (by omega) (fun i => by rw [w2, tA_uA, w1, tA_uA, i3_9, show (29 + 5 * best + 4).toNat = 33 + 5 * best.toNat by omega, show (29 + 5 * best + 3).toNat = 32 + 5 * best.toNat by omega]; simp) (by rw [w2, tI_uA, w1, tI_uA]; exact i3_13) | omega)⟩
            refine w_iload rfl ?_
            refine w_push kc_2 ?_
            refine w_div (by omega) ?_
            refine w_istore (lv' := [some (.ref 68), some (.int (jI r)), some (.int (jI p)), some (.int (jI best)), some (.int (jI least)), some (.int (jI way)), some (.int (jI k)), some (.int (jI (k / 2))), dv o8]) rfl ?_
            refine w_aload rfl ?_
            refine w_iload rfl ?_
            refine w_push kc_3 ?_
            refine w_callV2I (oj_68 _).choose_spec rfl (c_X9_of ok2 (by omega) (by omega) (by omega) (by omega)) ?_
            rintro z12 t12 ⟨rfl, hp12_0, hp12_1, hp12_2⟩
            have hr12 := of_r3 (s := (k / 2)) ok2 (by omega)
            have eAT : z12 = tA t 69 (32 + 5 * (k / 2).toNat) := by
              rw [hp12_0, i3_9]
              congr 1
              omega
            refine w_push kc_12 ?_
            refine w_cne (by omega) (fun h13 => ?_) (fun h13 => ?_)
            · skip
              refine w_step rfl ?_
              have hN12 : ¬ (RPt t).1 (k / 2).toNat = 12 := fun e => by have e2 := RPt_12.mp e; omega
              refine w_push kc_m1 ?_
              refine w_goto ?_
              refine w_step rfl ?_
              refine w_istore (lv' := [some (.ref 68), some (.int (jI r)), some (.int (jI p)), some (.int (jI best)), some (.int (jI least)), some (.int (jI way)), some (.int (jI k)), some (.int (jI (k / 2))), some (.int (jI (-1)))]) rfl ?_
              refine w_iload rfl ?_
              refine w_ilt (by omega) (fun _ => ?_) (fun h => absurd (by omega) h)
              refine w_step rfl ?_
              refine w_iinc (lv' := [some (.ref 68), some (.int (jI r)), some (.int (jI p)), some (.int (jI best)), some (.int (jI least)), some (.int (jI way)), some (.int (jI (k + 1))), some (.int (jI (k / 2))), some (.int (jI (-1)))]) kc_1 rfl rfl ?_
              refine w_goto ?_
              exact ih3 _ best least way (k + 1) (some (k / 2)) (some (-1)) t2 ok2 fr2 wf2 dq2 (by omega) (by omega) (by omega) (by omega) (by omega) (by omega) (by omega) (by omega) (by omega) (by first | exact eA | exact i3_9) (by first | exact lbk_y i3_10 (by omega) hP12 hO (by omega) | exact lbk_n i3_10 (by omega) (Or.inr ⟨by omega, by rw [← hO]; omega⟩) | exact lbk_n i3_10 (by omega) (Or.inl hN12) | omega) (by omega) (by omega) (fr2.1 68 4 (by simp)) (by omega) (by omega)
            refine w_iload rfl ?_
            refine w_aload rfl ?_
            refine w_getI (g_68_4 _) fe_68_4 ok2 (fun z14 hz14 hl14 hh14 => ?_)
            have eAW : z14 = tI t 68 4 := by rw [hz14, c4]
            have hP12 : (RPt t).1 (k / 2).toNat = 12 ∨ True := Or.inr trivial
            refine w_ceq (by omega) (fun h15 => ?_) (fun h15 => ?_)
            · skip
              refine w_step rfl ?_
              have hN12 : ¬ (RPt t).1 (k / 2).toNat = 12 := fun e => by have e2 := RPt_12.mp e; omega
              refine w_push kc_m1 ?_
              refine w_goto ?_
              refine w_step rfl ?_
              refine w_istore (lv' := [some (.ref 68), some (.int (jI r)), some (.int (jI p)), some (.int (jI best)), some (.int (jI least)), some (.int (jI way)), some (.int (jI k)), some (.int (jI (k / 2))), some (.int (jI (-1)))]) rfl ?_
              refine w_iload rfl ?_
              refine w_ilt (by omega) (fun _ => ?_) (fun h => absurd (by omega) h)
              refine w_step rfl ?_
              refine w_iinc (lv' := [some (.ref 68), some (.int (jI r)), some (.int (jI p)), some (.int (jI best)), some (.int (jI least)), some (.int (jI way)), some (.int (jI (k + 1))), some (.int (jI (k / 2))), some (.int (jI (-1)))]) kc_1 rfl rfl ?_
              refine w_goto ?_
              exact ih3 _ best least way (k + 1) (some (k / 2)) (some (-1)) t2 ok2 fr2 wf2 dq2 (by omega) (by omega) (by omega) (by omega) (by omega) (by omega) (by omega) (by omega) (by omega) (by first | exact eA | exact i3_9) (by first | exact lbk_y i3_10 (by omega) hP12 hO (by omega) | exact lbk_n i3_10 (by omega) (Or.inr ⟨by omega, by rw [← hO]; omega⟩) | exact lbk_n i3_10 (by omega) (Or.inl hN12) | omega) (by omega) (by omega) (fr2.1 68 4 (by simp)) (by omega) (by omega)
            refine w_aload rfl ?_
            refine w_iload rfl ?_
            refine w_iload rfl ?_
            refine w_iload rfl ?_
            refine w_push kc_2 ?_
            refine w_rem (by omega) ?_
            refine w_callV3I (oj_68 _).choose_spec rfl (e_X9_offOf ok2 wf2 (by intro k hk; rw [i3_9] at hk ⊢; exact q1 k hk) (by omega) (by omega) (by omega) (by omega) (by omega) (by omega)) ?_
            rintro z16 t16 ⟨ok16, fq16, hp16_0, hp16_1, hp16_2⟩
            have fr16 := fr2.then fq16 (by simp)
            have wf16 := wf2.fr fq16 (by simp)
            have dq16 := dq2.fr fq16 (by simp)
            have eA : ∀ i, tA t16 69 i = tA t 69 i := fun i => (fq16.2.1 69 (by simp) i).trans (i3_9 i)
            have hP12 : (RPt t).1 (k / 2).toNat = 12 := RPt_12.mpr ⟨by omega, by omega⟩
            have hO : z16 = OA t 69 (k / 2).toNat p.toNat (k % 2).toNat := by rw [hp16_2, OA_cg (fun i _ _ _ => i3_9 i)]
            refine w_goto ?_
            refine w_step rfl ?_
            refine w_istore (lv' := [some (.ref 68), some (.int (jI r)), some (.int (jI p)), some (.int (jI best)), some (.int (jI least)), some (.int (jI way)), some (.int (jI k)), some (.int (jI (k / 2))), some (.int (jI z16))]) rfl ?_
            refine w_iload rfl ?_
            refine w_ilt (by omega) (fun h17 => ?_) (fun h17 => ?_)
            · skip
              refine w_step rfl ?_
              refine w_iinc (lv' := [some (.ref 68), some (.int (jI r)), some (.int (jI p)), some (.int (jI best)), some (.int (jI least)), some (.int (jI way)), some (.int (jI (k + 1))), some (.int (jI (k / 2))), some (.int (jI z16))]) kc_1 rfl rfl ?_
              refine w_goto ?_
              exact ih3 _ best least way (k + 1) (some (k / 2)) (some z16) t16 ok16 fr16 wf16 dq16 (by omega) (by omega) (by omega) (by omega) (by omega) (by omega) (by omega) (by omega) (by omega) (by first | exact eA | exact i3_9) (by first | exact lbk_y i3_10 (by omega) hP12 hO (by omega) | exact lbk_n i3_10 (by omega) (Or.inr ⟨by omega, by rw [← hO]; omega⟩) | exact lbk_n i3_10 (by omega) (Or.inl hN12) | omega) (by omega) (by omega) (fr16.1 68 4 (by simp)) (by omega) (by omega)
            refine w_iload rfl ?_
            refine w_ilt (by omega) (fun h18 => ?_) (fun h18 => ?_)
            · skip
              refine w_step rfl ?_
              refine w_iload rfl ?_
              refine w_istore (lv' := [some (.ref 68), some (.int (jI r)), some (.int (jI p)), some (.int (jI (k / 2))), some (.int (jI least)), some (.int (jI way)), some (.int (jI k)), some (.int (jI (k / 2))), some (.int (jI z16))]) rfl ?_
              refine w_iload rfl ?_
              refine w_istore (lv' := [some (.ref 68), some (.int (jI r)), some (.int (jI p)), some (.int (jI (k / 2))), some (.int (jI z16)), some (.int (jI way)), some (.int (jI k)), some (.int (jI (k / 2))), some (.int (jI z16))]) rfl ?_
              refine w_iload rfl ?_
              refine w_push kc_2 ?_
              refine w_rem (by omega) ?_
              refine w_istore (lv' := [some (.ref 68), some (.int (jI r)), some (.int (jI p)), some (.int (jI (k / 2))), some (.int (jI z16)), some (.int (jI (k % 2))), some (.int (jI k)), some (.int (jI (k / 2))), some (.int (jI z16))]) rfl ?_
              refine w_goto ?_
              refine w_step rfl ?_
              refine w_iinc (lv' := [some (.ref 68), some (.int (jI r)), some (.int (jI p)), some (.int (jI (k / 2))), some (.int (jI z16)), some (.int (jI (k % 2))), some (.int (jI (k + 1))), some (.int (jI (k / 2))), some (.int (jI z16))]) kc_1 rfl rfl ?_
              refine w_goto ?_
              exact ih3 _ (k / 2) z16 (k % 2) (k + 1) (some (k / 2)) (some z16) t16 ok16 fr16 wf16 dq16 (by omega) (by omega) (by omega) (by omega) (by omega) (by omega) (by omega) (by omega) (by omega) (by first | exact eA | exact i3_9) (by first | exact lbk_y i3_10 (by omega) hP12 hO (by omega) | exact lbk_n i3_10 (by omega) (Or.inr ⟨by omega, by rw [← hO]; omega⟩) | exact lbk_n i3_10 (by omega) (Or.inl hN12) | omega) (by omega) (by omega) (fr16.1 68 4 (by simp)) (by omega) (by omega)
            refine w_iload rfl ?_
            refine w_iload rfl ?_
            refine w_cge (by omega) (fun h19 => ?_) (fun h19 => ?_)
            · skip
              refine w_step rfl ?_
              refine w_iinc (lv' := [some (.ref 68), some (.int (jI r)), some (.int (jI p)), some (.int (jI best)), some (.int (jI least)), some (.int (jI way)), some (.int (jI (k + 1))), some (.int (jI (k / 2))), some (.int (jI z16))]) kc_1 rfl rfl ?_
              refine w_goto ?_
              exact ih3 _ best least way (k + 1) (some (k / 2)) (some z16) t16 ok16 fr16 wf16 dq16 (by omega) (by omega) (by omega) (by omega) (by omega) (by omega) (by omega) (by omega) (by omega) (by first | exact eA | exact i3_9) (by first | exact lbk_y i3_10 (by omega) hP12 hO (by omega) | exact lbk_n i3_10 (by omega) (Or.inr ⟨by omega, by rw [← hO]; omega⟩) | exact lbk_n i3_10 (by omega) (Or.inl hN12) | omega) (by omega) (by omega) (fr16.1 68 4 (by simp)) (by omega) (by omega)
            refine w_goto ?_
            refine w_step rfl ?_
            refine w_iload rfl ?_
            refine w_istore (lv' := [some (.ref 68), some (.int (jI r)), some (.int (jI p)), some (.int (jI (k / 2))), some (.int (jI least)), some (.int (jI way)), some (.int (jI k)), some (.int (jI (k / 2))), some (.int (jI z16))]) rfl ?_
            refine w_iload rfl ?_
            refine w_istore (lv' := [some (.ref 68), some (.int (jI r)), some (.int (jI p)), some (.int (jI (k / 2))), some (.int (jI z16)), some (.int (jI way)), some (.int (jI k)), some (.int (jI (k / 2))), some (.int (jI z16))]) rfl ?_
            refine w_iload rfl ?_
            refine w_push kc_2 ?_
            refine w_rem (by omega) ?_
            refine w_istore (lv' := [some (.ref 68), some (.int (jI r)), some (.int (jI p)), some (.int (jI (k / 2))), some (.int (jI z16)), some (.int (jI (k % 2))), some (.int (jI k)), some (.int (jI (k / 2))), some (.int (jI z16))]) rfl ?_
            refine w_goto ?_
            refine w_step rfl ?_
            refine w_iinc (lv' := [some (.ref 68), some (.int (jI r)), some (.int (jI p)), some (.int (jI (k / 2))), some (.int (jI z16)), some (.int (jI (k % 2))), some (.int (jI (k + 1))), some (.int (jI (k / 2))), some (.int (jI z16))]) kc_1 rfl rfl ?_
            refine w_goto ?_
            exact ih3 _ (k / 2) z16 (k % 2) (k + 1) (some (k / 2)) (some z16) t16 ok16 fr16 wf16 dq16 (by omega) (by omega) (by omega) (by omega) (by omega) (by omega) (by omega) (by omega) (by omega) (by first | exact eA | exact i3_9) (by first | exact lbk_y i3_10 (by omega) hP12 hO (by omega) | exact lbk_n i3_10 (by omega) (Or.inr ⟨by omega, by rw [← hO]; omega⟩) | exact lbk_n i3_10 (by omega) (Or.inl hN12) | omega) (by omega) (by omega) (fr16.1 68 4 (by simp)) (by omega) (by omega)
        exact key3 25 _ (-1) 0 0 0 none none t ok fr q0 dq (by omega) (by omega) (by omega) (by omega) (by omega) (by omega) (by omega) (by omega) (by omega) (fun _ => rfl) ⟨rfl, rfl, rfl⟩ (by omega) (by omega) rfl (by omega) (by omega)
      refine w_aload rfl ?_
      refine w_iload rfl ?_
      refine w_callV1I (oj_68 _).choose_spec rfl (e_X9_holder ok (by omega) (by omega)) ?_
      rintro z20 t20 ⟨rfl, hp20_0, hp20_1, hp20_2⟩
      refine w_ilt (by omega) (fun h21 => ?_) (fun h21 => ?_)
      · skip
        refine w_step rfl ?_
        refine w_push kc_m1 ?_
        refine w_istore (lv' := [some (.ref 68), some (.int (jI r)), some (.int (jI p)), some (.int (jI (-1))), none, none, none, none, none]) rfl ?_
        refine w_push kc_0 ?_
        refine w_istore (lv' := [some (.ref 68), some (.int (jI r)), some (.int (jI p)), some (.int (jI (-1))), some (.int (jI 0)), none, none, none, none]) rfl ?_
        refine w_push kc_0 ?_
        refine w_istore (lv' := [some (.ref 68), some (.int (jI r)), some (.int (jI p)), some (.int (jI (-1))), some (.int (jI 0)), some (.int (jI 0)), none, none, none]) rfl ?_
        refine w_push kc_0 ?_
        refine w_istore (lv' := [some (.ref 68), some (.int (jI r)), some (.int (jI p)), some (.int (jI (-1))), some (.int (jI 0)), some (.int (jI 0)), some (.int (jI 0)), none, none]) rfl ?_
        refine w_goto ?_
        have key3 : ∀ (n3 M3 : Nat) (best : Int) (least : Int) (way : Int) (k : Int) (o7 : Option Int) (o8 : Option Int) (t22 : TS), OK t22 → Fr [(69, 100), (81, 100), (82, 100)] t t22 → WF t22 69 → Dq t t22 → (-1 ≤ best) → (best ≤ 11) → (0 ≤ least) → (least ≤ 198) → (0 ≤ way) → (way ≤ 1) → (0 ≤ k) → (k ≤ 24) → (best < 0 ∨ p < 3 * r + 3) → (∀ i, tA t22 69 i = tA t 69 i) → (lb1 (fun s u => OA t 69 s p.toNat u) (RPt t).1 k.toNat best least way) → (k ≤ 2 * tA t 69 1) → (p < 3 * r + 3 ∨ (best = -1 ∧ k = 0)) → (tI t22 68 4 = tI t 68 4) → 24 - k < (n3 : Int) → 60 * n3 + (1000) ≤ M3 → Rn (bX9_laysIn (EX FU (d + 4))) M3 3 [some (.ref 68), some (.int (jI r)), some (.int (jI p)), some (.int (jI best)), some (.int (jI least)), some (.int (jI way)), some (.int (jI k)), dv o7, dv o8] [] (mk t22) (PV (fun t' => OK t' ∧ Fr [(69, 100), (81, 100), (82, 100)] t t' ∧ (Dq t t') ∧ (tA t' 69 0 = tA t 69 0) ∧ (tA t' 69 2 = tA t 69 2) ∧ (tA t' 69 3 = tA t 69 3) ∧ (GRp t t' (lyF (tA t 69 1).toNat (OA t 69) r (RPt t))))) := by
          intro n3
          induction n3 with
          | zero => intro M3 best least way k o7 o8 t22 ok22 fr22 wf22 dq22 i3_0 i3_1 i3_2 i3_3 i3_4 i3_5 i3_6 i3_7 i3_8 i3_9 i3_10 i3_11 i3_12 i3_13 v3 f3; exfalso; omega
          | succ n3 ih3 =>
            intro M3 best least way k o7 o8 t22 ok22 fr22 wf22 dq22 i3_0 i3_1 i3_2 i3_3 i3_4 i3_5 i3_6 i3_7 i3_8 i3_9 i3_10 i3_11 i3_12 i3_13 v3 f3
            obtain ⟨M3, rfl⟩ : ∃ m, M3 = m + 60 := ⟨M3 - 60, by omega⟩
            have c4 : tI t22 68 4 = tI t 68 4 := fr22.1 68 4 (by simp)
            have en1 : tA t22 69 1 = tA t 69 1 := i3_9 1
            refine w_step rfl ?_
            refine w_iload rfl ?_
            refine w_push kc_2 ?_
            refine w_aload rfl ?_
            refine w_getR (g_68_0 _) ?_
            refine w_push kc_1 ?_
            refine w_iald (i := 1) (ai_69 _) (by omega) (by omega) (ax_69 nr_1) ok22 (fun z23 hz23 hl23 hh23 => ?_)
            refine w_mul ?_
            refine w_cge (by omega) (fun h24 => ?_) (fun h24 => ?_)
            · skip
              refine w_step rfl ?_
              have hbk : best = -1 ∨ k = 2 * tA t 69 1 := by omega
              refine w_iload rfl ?_
              refine w_ilt (by omega) (fun h25 => ?_) (fun h25 => ?_)
              · skip
                refine w_step rfl ?_
                refine w_retV ?_
                exact ⟨ok22, fr22, dq22, (by first | (rw [w2, tA_uA, if_neg (by omega), w1, tA_uA, if_neg (by omega)]; exact i3_9 _) | exact i3_9 _), (by first | (rw [w2, tA_uA, if_neg (by omega), w1, tA_uA, if_neg (by omega)]; exact i3_9 _) | exact i3_9 _), (by first | (rw [w2, tA_uA, if_neg (by omega), w1, tA_uA, if_neg (by omega)]; exact i3_9 _) | exact i3_9 _), (by first | exact lr_0 ok (GRp.rf q2) (by omega) (fun q h1 h2 => i1_2 q h1 (by omega)) i3_9 i3_13 | exact lr_a ok (GRp.rf q2) (by omega) (by omega) i1_2 (by omega) i3_10 (by omega) (by omega) i3_9 i3_13 | exact lr_b ok (GRp.rf q2) (by omega) (by omega) i1_2 (by omega) i3_10 (by omega) (by omega) (fun i => by rw [w2, tA_uA, w1, tA_uA, i3_9, show (29 + 5 * best + 4).toNat = 33 + 5 * best.toNat by omega, show (29 + 5 * best + 3).toNat = 32 + 5 * best.toNat by omega]; simp) (by rw [w2, tI_uA, w1, tI_uA]; exact i3_13) | omega)⟩
              refine w_aload rfl ?_
              refine w_getR (g_68_0 _) ?_
              refine w_push kc_29 ?_
              refine w_push kc_5 ?_
              refine w_iload rfl ?_
              refine w_mul ?_
              refine w_add ?_
              refine w_push kc_3 ?_
              refine w_add ?_
              refine w_iload rfl ?_
              refine w_iast (i := (((29 + (5 * best)) + 3)).toNat) (ai_69 _) rfl (by omega) (by omega) (ax_69 (nr_S3 (s := best.toNat) (by omega))) ok22 (by omega) (fun t26 ht26 ok26 => ?_)
              have fr26 := fr22.uA ht26 (by simp)
              have wf26 := wf22.u69 ht26 (by omega)
              have dq26 := dq22.u69 ht26 (by omega)
              have w1 := ht26
              refine w_aload rfl ?_
              refine w_getR (g_68_0 _) ?_
              refine w_push kc_29 ?_
              refine w_push kc_5 ?_
              refine w_iload rfl ?_
              refine w_mul ?_
              refine w_add ?_
              refine w_push kc_4 ?_
              refine w_add ?_
              refine w_iload rfl ?_
              refine w_iast (i := (((29 + (5 * best)) + 4)).toNat) (ai_69 _) rfl (by omega) (by omega) (ax_69 (nr_S4 (s := best.toNat) (by omega))) ok26 (by omega) (fun t27 ht27 ok27 => ?_)
              have fr27 := fr26.uA ht27 (by simp)
              have wf27 := wf26.u69 ht27 (by omega)
              have dq27 := dq26.u69 ht27 (by omega)
              have w2 := ht27
              refine w_goto ?_
              refine w_step rfl ?_
              refine w_retV ?_
              exact ⟨ok27, fr27, dq27, (by first | (rw [w2, tA_uA, if_neg (by omega), w1, tA_uA, if_neg (by omega)]; exact i3_9 _) | exact i3_9 _), (by first | (rw [w2, tA_uA, if_neg (by omega), w1, tA_uA, if_neg (by omega)]; exact i3_9 _) | exact i3_9 _), (by first | (rw [w2, tA_uA, if_neg (by omega), w1, tA_uA, if_neg (by omega)]; exact i3_9 _) | exact i3_9 _), (by first | exact lr_0 ok (GRp.rf q2) (by omega) (fun q h1 h2 => i1_2 q h1 (by omega)) i3_9 i3_13 | exact lr_a ok (GRp.rf q2) (by omega) (by omega) i1_2 (by omega) i3_10 (by omega) (by omega) i3_9 i3_13 | exact lr_b ok (GRp.rf q2) (by omega) (by omega) i1_2 (by omega) i3_10 (by omega) (by omega) (fun i => by rw [w2, tA_uA, w1, tA_uA, i3_9, show (29 + 5 * best + 4).toNat = 33 + 5 * best.toNat by omega, show (29 + 5 * best + 3).toNat = 32 + 5 * best.toNat by omega]; simp) (by rw [w2, tI_uA, w1, tI_uA]; exact i3_13) | omega)⟩
            refine w_iload rfl ?_
            refine w_push kc_3 ?_
            refine w_iload rfl ?_
            refine w_mul ?_
            refine w_push kc_3 ?_
            refine w_add ?_
            refine w_cge (by omega) (fun h28 => ?_) (fun h28 => ?_)
            · skip
              refine w_step rfl ?_
              have hbk : best = -1 ∨ k = 2 * tA t 69 1 := by omega
              refine w_iload rfl ?_
              refine w_ilt (by omega) (fun h29 => ?_) (fun h29 => ?_)
              · skip
                refine w_step rfl ?_
                refine w_retV ?_
                exact ⟨ok22, fr22, dq22, (by first | (rw [w2, tA_uA, if_neg (by omega), w1, tA_uA, if_neg (by omega)]; exact i3_9 _) | exact i3_9 _), (by first | (rw [w2, tA_uA, if_neg (by omega), w1, tA_uA, if_neg (by omega)]; exact i3_9 _) | exact i3_9 _), (by first | (rw [w2, tA_uA, if_neg (by omega), w1, tA_uA, if_neg (by omega)]; exact i3_9 _) | exact i3_9 _), (by first | exact lr_0 ok (GRp.rf q2) (by omega) (fun q h1 h2 => i1_2 q h1 (by omega)) i3_9 i3_13 | exact lr_a ok (GRp.rf q2) (by omega) (by omega) i1_2 (by omega) i3_10 (by omega) (by omega) i3_9 i3_13 | exact lr_b ok (GRp.rf q2) (by omega) (by omega) i1_2 (by omega) i3_10 (by omega) (by omega) (fun i => by rw [w2, tA_uA, w1, tA_uA, i3_9, show (29 + 5 * best + 4).toNat = 33 + 5 * best.toNat by omega, show (29 + 5 * best + 3).toNat = 32 + 5 * best.toNat by omega]; simp) (by rw [w2, tI_uA, w1, tI_uA]; exact i3_13) | omega)⟩
              refine w_aload rfl ?_
              refine w_getR (g_68_0 _) ?_
              refine w_push kc_29 ?_
              refine w_push kc_5 ?_
              refine w_iload rfl ?_
              refine w_mul ?_
              refine w_add ?_
              refine w_push kc_3 ?_
              refine w_add ?_
              refine w_iload rfl ?_
              refine w_iast (i := (((29 + (5 * best)) + 3)).toNat) (ai_69 _) rfl (by omega) (by omega) (ax_69 (nr_S3 (s := best.toNat) (by omega))) ok22 (by omega) (fun t30 ht30 ok30 => ?_)
              have fr30 := fr22.uA ht30 (by simp)
              have wf30 := wf22.u69 ht30 (by omega)
              have dq30 := dq22.u69 ht30 (by omega)
              have w1 := ht30
              refine w_aload rfl ?_
              refine w_getR (g_68_0 _) ?_
              refine w_push kc_29 ?_
              refine w_push kc_5 ?_
              refine w_iload rfl ?_
              refine w_mul ?_
              refine w_add ?_
              refine w_push kc_4 ?_
              refine w_add ?_
              refine w_iload rfl ?_
              refine w_iast (i := (((29 + (5 * best)) + 4)).toNat) (ai_69 _) rfl (by omega) (by omega) (ax_69 (nr_S4 (s := best.toNat) (by omega))) ok30 (by omega) (fun t31 ht31 ok31 => ?_)
              have fr31 := fr30.uA ht31 (by simp)
              have wf31 := wf30.u69 ht31 (by omega)
              have dq31 := dq30.u69 ht31 (by omega)
              have w2 := ht31
              refine w_goto ?_
              refine w_step rfl ?_
              refine w_retV ?_
              exact ⟨ok31, fr31, dq31, (by first | (rw [w2, tA_uA, if_neg (by omega), w1, tA_uA, if_neg (by omega)]; exact i3_9 _) | exact i3_9 _), (by first | (rw [w2, tA_uA, if_neg (by omega), w1, tA_uA, if_neg (by omega)]; exact i3_9 _) | exact i3_9 _), (by first | (rw [w2, tA_uA, if_neg (by omega), w1, tA_uA, if_neg (by omega)]; exact i3_9 _) | exact i3_9 _), (by first | exact lr_0 ok (GRp.rf q2) (by omega) (fun q h1 h2 => i1_2 q h1 (by omega)) i3_9 i3_13 | exact lr_a ok (GRp.rf q2) (by omega) (by omega) i1_2 (by omega) i3_10 (by omega) (by omega) i3_9 i3_13 | exact lr_b ok (GRp.rf q2) (by omega) (by omega) i1_2 (by omega) i3_10 (by omega) (by omega) (fun i => by rw [w2, tA_uA, w1, tA_uA, i3_9, show (29 + 5 * best + 4).toNat = 33 + 5 * best.toNat by omega, show (29 + 5 * best + 3).toNat = 32 + 5 * best.toNat by omega]; simp) (by rw [w2, tI_uA, w1, tI_uA]; exact i3_13) | omega)⟩
            refine w_iload rfl ?_
            refine w_push kc_2 ?_
            refine w_div (by omega) ?_
            refine w_istore (lv' := [some (.ref 68), some (.int (jI r)), some (.int (jI p)), some (.int (jI best)), some (.int (jI least)), some (.int (jI way)), some (.int (jI k)), some (.int (jI (k / 2))), dv o8]) rfl ?_
            refine w_aload rfl ?_
            refine w_iload rfl ?_
            refine w_push kc_3 ?_
            refine w_callV2I (oj_68 _).choose_spec rfl (c_X9_of ok22 (by omega) (by omega) (by omega) (by omega)) ?_
            rintro z32 t32 ⟨rfl, hp32_0, hp32_1, hp32_2⟩
            have hr32 := of_r3 (s := (k / 2)) ok22 (by omega)
            have eAT : z32 = tA t 69 (32 + 5 * (k / 2).toNat) := by
              rw [hp32_0, i3_9]
              congr 1
              omega
            refine w_push kc_12 ?_
            refine w_cne (by omega) (fun h33 => ?_) (fun h33 => ?_)
            · skip
              refine w_step rfl ?_
              have hN12 : ¬ (RPt t).1 (k / 2).toNat = 12 := fun e => by have e2 := RPt_12.mp e; omega
              refine w_push kc_m1 ?_
              refine w_goto ?_
              refine w_step rfl ?_
              refine w_istore (lv' := [some (.ref 68), some (.int (jI r)), some (.int (jI p)), some (.int (jI best)), some (.int (jI least)), some (.int (jI way)), some (.int (jI k)), some (.int (jI (k / 2))), some (.int (jI (-1)))]) rfl ?_
              refine w_iload rfl ?_
              refine w_ilt (by omega) (fun _ => ?_) (fun h => absurd (by omega) h)
              refine w_step rfl ?_
              refine w_iinc (lv' := [some (.ref 68), some (.int (jI r)), some (.int (jI p)), some (.int (jI best)), some (.int (jI least)), some (.int (jI way)), some (.int (jI (k + 1))), some (.int (jI (k / 2))), some (.int (jI (-1)))]) kc_1 rfl rfl ?_
              refine w_goto ?_
              exact ih3 _ best least way (k + 1) (some (k / 2)) (some (-1)) t22 ok22 fr22 wf22 dq22 (by omega) (by omega) (by omega) (by omega) (by omega) (by omega) (by omega) (by omega) (by omega) (by first | exact eA | exact i3_9) (by first | exact lbk_y i3_10 (by omega) hP12 hO (by omega) | exact lbk_n i3_10 (by omega) (Or.inr ⟨by omega, by rw [← hO]; omega⟩) | exact lbk_n i3_10 (by omega) (Or.inl hN12) | omega) (by omega) (by omega) (fr22.1 68 4 (by simp)) (by omega) (by omega)
            refine w_iload rfl ?_
            refine w_aload rfl ?_
            refine w_getI (g_68_4 _) fe_68_4 ok22 (fun z34 hz34 hl34 hh34 => ?_)
            have eAW : z34 = tI t 68 4 := by rw [hz34, c4]
            have hP12 : (RPt t).1 (k / 2).toNat = 12 ∨ True := Or.inr trivial
            refine w_ceq (by omega) (fun h35 => ?_) (fun h35 => ?_)
            · skip
              refine w_step rfl ?_
              have hN12 : ¬ (RPt t).1 (k / 2).toNat = 12 := fun e => by have e2 := RPt_12.mp e; omega
              refine w_push kc_m1 ?_
              refine w_goto ?_
              refine w_step rfl ?_
              refine w_istore (lv' := [some (.ref 68), some (.int (jI r)), some (.int (jI p)), some (.int (jI best)), some (.int (jI least)), some (.int (jI way)), some (.int (jI k)), some (.int (jI (k / 2))), some (.int (jI (-1)))]) rfl ?_
              refine w_iload rfl ?_
              refine w_ilt (by omega) (fun _ => ?_) (fun h => absurd (by omega) h)
              refine w_step rfl ?_
              refine w_iinc (lv' := [some (.ref 68), some (.int (jI r)), some (.int (jI p)), some (.int (jI best)), some (.int (jI least)), some (.int (jI way)), some (.int (jI (k + 1))), some (.int (jI (k / 2))), some (.int (jI (-1)))]) kc_1 rfl rfl ?_
              refine w_goto ?_
              exact ih3 _ best least way (k + 1) (some (k / 2)) (some (-1)) t22 ok22 fr22 wf22 dq22 (by omega) (by omega) (by omega) (by omega) (by omega) (by omega) (by omega) (by omega) (by omega) (by first | exact eA | exact i3_9) (by first | exact lbk_y i3_10 (by omega) hP12 hO (by omega) | exact lbk_n i3_10 (by omega) (Or.inr ⟨by omega, by rw [← hO]; omega⟩) | exact lbk_n i3_10 (by omega) (Or.inl hN12) | omega) (by omega) (by omega) (fr22.1 68 4 (by simp)) (by omega) (by omega)
            refine w_aload rfl ?_
            refine w_iload rfl ?_
            refine w_iload rfl ?_
            refine w_iload rfl ?_
            refine w_push kc_2 ?_
            refine w_rem (by omega) ?_
            refine w_callV3I (oj_68 _).choose_spec rfl (e_X9_offOf ok22 wf22 (by intro k hk; rw [i3_9] at hk ⊢; exact q1 k hk) (by omega) (by omega) (by omega) (by omega) (by omega) (by omega)) ?_
            rintro z36 t36 ⟨ok36, fq36, hp36_0, hp36_1, hp36_2⟩
            have fr36 := fr22.then fq36 (by simp)
            have wf36 := wf22.fr fq36 (by simp)
            have dq36 := dq22.fr fq36 (by simp)
            have eA : ∀ i, tA t36 69 i = tA t 69 i := fun i => (fq36.2.1 69 (by simp) i).trans (i3_9 i)
            have hP12 : (RPt t).1 (k / 2).toNat = 12 := RPt_12.mpr ⟨by omega, by omega⟩
            have hO : z36 = OA t 69 (k / 2).toNat p.toNat (k % 2).toNat := by rw [hp36_2, OA_cg (fun i _ _ _ => i3_9 i)]
            refine w_goto ?_
            refine w_step rfl ?_
            refine w_istore (lv' := [some (.ref 68), some (.int (jI r)), some (.int (jI p)), some (.int (jI best)), some (.int (jI least)), some (.int (jI way)), some (.int (jI k)), some (.int (jI (k / 2))), some (.int (jI z36))]) rfl ?_
            refine w_iload rfl ?_
            refine w_ilt (by omega) (fun h37 => ?_) (fun h37 => ?_)
            · skip
              refine w_step rfl ?_
              refine w_iinc (lv' := [some (.ref 68), some (.int (jI r)), some (.int (jI p)), some (.int (jI best)), some (.int (jI least)), some (.int (jI way)), some (.int (jI (k + 1))), some (.int (jI (k / 2))), some (.int (jI z36))]) kc_1 rfl rfl ?_
              refine w_goto ?_
              exact ih3 _ best least way (k + 1) (some (k / 2)) (some z36) t36 ok36 fr36 wf36 dq36 (by omega) (by omega) (by omega) (by omega) (by omega) (by omega) (by omega) (by omega) (by omega) (by first | exact eA | exact i3_9) (by first | exact lbk_y i3_10 (by omega) hP12 hO (by omega) | exact lbk_n i3_10 (by omega) (Or.inr ⟨by omega, by rw [← hO]; omega⟩) | exact lbk_n i3_10 (by omega) (Or.inl hN12) | omega) (by omega) (by omega) (fr36.1 68 4 (by simp)) (by omega) (by omega)
            refine w_iload rfl ?_
            refine w_ilt (by omega) (fun h38 => ?_) (fun h38 => ?_)
            · skip
              refine w_step rfl ?_
              refine w_iload rfl ?_
              refine w_istore (lv' := [some (.ref 68), some (.int (jI r)), some (.int (jI p)), some (.int (jI (k / 2))), some (.int (jI least)), some (.int (jI way)), some (.int (jI k)), some (.int (jI (k / 2))), some (.int (jI z36))]) rfl ?_
              refine w_iload rfl ?_
              refine w_istore (lv' := [some (.ref 68), some (.int (jI r)), some (.int (jI p)), some (.int (jI (k / 2))), some (.int (jI z36)), some (.int (jI way)), some (.int (jI k)), some (.int (jI (k / 2))), some (.int (jI z36))]) rfl ?_
              refine w_iload rfl ?_
              refine w_push kc_2 ?_
              refine w_rem (by omega) ?_
              refine w_istore (lv' := [some (.ref 68), some (.int (jI r)), some (.int (jI p)), some (.int (jI (k / 2))), some (.int (jI z36)), some (.int (jI (k % 2))), some (.int (jI k)), some (.int (jI (k / 2))), some (.int (jI z36))]) rfl ?_
              refine w_goto ?_
              refine w_step rfl ?_
              refine w_iinc (lv' := [some (.ref 68), some (.int (jI r)), some (.int (jI p)), some (.int (jI (k / 2))), some (.int (jI z36)), some (.int (jI (k % 2))), some (.int (jI (k + 1))), some (.int (jI (k / 2))), some (.int (jI z36))]) kc_1 rfl rfl ?_
              refine w_goto ?_
              exact ih3 _ (k / 2) z36 (k % 2) (k + 1) (some (k / 2)) (some z36) t36 ok36 fr36 wf36 dq36 (by omega) (by omega) (by omega) (by omega) (by omega) (by omega) (by omega) (by omega) (by omega) (by first | exact eA | exact i3_9) (by first | exact lbk_y i3_10 (by omega) hP12 hO (by omega) | exact lbk_n i3_10 (by omega) (Or.inr ⟨by omega, by rw [← hO]; omega⟩) | exact lbk_n i3_10 (by omega) (Or.inl hN12) | omega) (by omega) (by omega) (fr36.1 68 4 (by simp)) (by omega) (by omega)
            refine w_iload rfl ?_
            refine w_iload rfl ?_
            refine w_cge (by omega) (fun h39 => ?_) (fun h39 => ?_)
            · skip
              refine w_step rfl ?_
              refine w_iinc (lv' := [some (.ref 68), some (.int (jI r)), some (.int (jI p)), some (.int (jI best)), some (.int (jI least)), some (.int (jI way)), some (.int (jI (k + 1))), some (.int (jI (k / 2))), some (.int (jI z36))]) kc_1 rfl rfl ?_
              refine w_goto ?_
              exact ih3 _ best least way (k + 1) (some (k / 2)) (some z36) t36 ok36 fr36 wf36 dq36 (by omega) (by omega) (by omega) (by omega) (by omega) (by omega) (by omega) (by omega) (by omega) (by first | exact eA | exact i3_9) (by first | exact lbk_y i3_10 (by omega) hP12 hO (by omega) | exact lbk_n i3_10 (by omega) (Or.inr ⟨by omega, by rw [← hO]; omega⟩) | exact lbk_n i3_10 (by omega) (Or.inl hN12) | omega) (by omega) (by omega) (fr36.1 68 4 (by simp)) (by omega) (by omega)
            refine w_goto ?_
            refine w_step rfl ?_
            refine w_iload rfl ?_
            refine w_istore (lv' := [some (.ref 68), some (.int (jI r)), some (.int (jI p)), some (.int (jI (k / 2))), some (.int (jI least)), some (.int (jI way)), some (.int (jI k)), some (.int (jI (k / 2))), some (.int (jI z36))]) rfl ?_
            refine w_iload rfl ?_
            refine w_istore (lv' := [some (.ref 68), some (.int (jI r)), some (.int (jI p)), some (.int (jI (k / 2))), some (.int (jI z36)), some (.int (jI way)), some (.int (jI k)), some (.int (jI (k / 2))), some (.int (jI z36))]) rfl ?_
            refine w_iload rfl ?_
            refine w_push kc_2 ?_
            refine w_rem (by omega) ?_
            refine w_istore (lv' := [some (.ref 68), some (.int (jI r)), some (.int (jI p)), some (.int (jI (k / 2))), some (.int (jI z36)), some (.int (jI (k % 2))), some (.int (jI k)), some (.int (jI (k / 2))), some (.int (jI z36))]) rfl ?_
            refine w_goto ?_
            refine w_step rfl ?_
            refine w_iinc (lv' := [some (.ref 68), some (.int (jI r)), some (.int (jI p)), some (.int (jI (k / 2))), some (.int (jI z36)), some (.int (jI (k % 2))), some (.int (jI (k + 1))), some (.int (jI (k / 2))), some (.int (jI z36))]) kc_1 rfl rfl ?_
            refine w_goto ?_
            exact ih3 _ (k / 2) z36 (k % 2) (k + 1) (some (k / 2)) (some z36) t36 ok36 fr36 wf36 dq36 (by omega) (by omega) (by omega) (by omega) (by omega) (by omega) (by omega) (by omega) (by omega) (by first | exact eA | exact i3_9) (by first | exact lbk_y i3_10 (by omega) hP12 hO (by omega) | exact lbk_n i3_10 (by omega) (Or.inr ⟨by omega, by rw [← hO]; omega⟩) | exact lbk_n i3_10 (by omega) (Or.inl hN12) | omega) (by omega) (by omega) (fr36.1 68 4 (by simp)) (by omega) (by omega)
        exact key3 25 _ (-1) 0 0 0 none none t ok fr q0 dq (by omega) (by omega) (by omega) (by omega) (by omega) (by omega) (by omega) (by omega) (by omega) (fun _ => rfl) ⟨rfl, rfl, rfl⟩ (by omega) (by omega) rfl (by omega) (by omega)
      refine w_iinc (lv' := [some (.ref 68), some (.int (jI r)), some (.int (jI (p + 1))), none, none, none, none, none, none]) kc_1 rfl rfl ?_
      refine w_goto ?_
      exact ih1 _ (p + 1)  (by omega) (by omega) (fun q h1 h2 => (Int.lt_or_eq_of_le (show q ≤ p by omega)).elim (i1_2 q h1) (fun e => by rw [e]; omega)) (by omega) (by omega)
  exact key1 13 _ (3 * r)  (by omega) (by omega) (fun q h1 h2 => by omega) (by omega) (by omega)
set_option maxRecDepth 100000 in
set_option maxHeartbeats 4000000 in
theorem e_X9_day {d : Nat} {t : TS}  (ok : OK t) (q0 : WF t 69) (q1 : NZ t 69) (q2 : AWp t) : CV (EX FU (d + 6)) 159 [.ref 68] (mk t) (fun t' => OK t' ∧ Fr [(69, 100), (81, 100), (82, 100)] t t' ∧ (Dq t t') ∧ (tA t' 69 0 = zdF (tA t 69 0) (tA t 69 3)) ∧ (0 ≤ tA t 69 2 → tA t 69 2 ≤ 1000000 → tA t' 69 2 = tA t 69 2 + 1) ∧ (GRp t t' (dyF (tA t 69 1).toNat (OA t 69) (tA t 69 3) (tA t 69 0) (RPt t)))) := by
  refine CV_ent (d := d + 5) (Bk := bX9_day) (nL := 2) rfl rfl rfl (Nat.le_of_ble_eq_true rfl) ?_
  show Rn _ 1000000 0 [some (.ref 68), none] [] _ _
  have fr : Fr [(69, 100), (81, 100), (82, 100)] t t := Fr.rf _ _
  have hn0 := (ok.a (ax_69 nr_1)).1
  have hn1 := (ok.a (ax_69 nr_1)).2
  have gl := GRp.rf q2
  have dq : Dq t t := Dq.rf t
  refine w_step rfl ?_
  refine w_aload rfl ?_
  refine w_aload rfl ?_
  refine w_callV0I (oj_68 _).choose_spec rfl (c_X9_draw ok) ?_
  rintro z1 t1 ⟨ok1, fq1, hp1_0, hp1_1, hp1_2, hp1_3⟩
  have fr1 := fr.then fq1 (by simp)
  have wf1 := q0.u69 hp1_0 (by omega)
  have dq1 := dq.u69 hp1_0 (by omega)
  have ev1 : z1 = drF (znF (tA t 69 0)) := hp1_1
  have ea : tA t1 69 0 = znF (tA t 69 0) := by rw [hp1_0, tA_uA, if_pos ⟨rfl, rfl⟩]
  have eb : tA t1 69 3 = tA t 69 3 := by rw [hp1_0, tA_uA, if_neg (by decide)]
  have ec : tA t1 69 2 = tA t 69 2 := by rw [hp1_0, tA_uA, if_neg (by decide)]
  have gl := gl.u hp1_0 (Or.inl rfl)
  refine w_push kc_4 ?_
  refine w_rem (by omega) ?_
  refine w_callV1V (oj_68 _).choose_spec rfl (e_X9_laysIn ok1 wf1 (by intro k hk; rw [dq1 4 (by decide) (by decide) (by decide)] at hk; rw [dq1 _ (by omega) (by omega) (by omega)]; exact q1 k hk) gl.2.1 (by omega) (by omega)) ?_
  rintro t2 ⟨ok2, fq2, hp2_0, hp2_1, hp2_2, hp2_3, hp2_4⟩
  have fr2 := fr1.then fq2 (by simp)
  have wf2 := wf1.dq hp2_0
  have dq2 := dq1.trans hp2_0
  have ea : tA t2 69 0 = znF (tA t 69 0) := hp2_1.trans ea
  have eb : tA t2 69 3 = tA t 69 3 := hp2_3.trans eb
  have ec : tA t2 69 2 = tA t 69 2 := hp2_2.trans ec
  have gl : GRp t t2 (lyF (tA t 69 1).toNat (OA t 69) (drF (znF (tA t 69 0)) % 4) (RPt t)) := by
    have g := hp2_4
    rw [ev1] at g
    exact gr_c gl g
  refine w_aload rfl ?_
  refine w_callV0I (oj_68 _).choose_spec rfl (c_X9_draw ok2) ?_
  rintro z3 t3 ⟨ok3, fq3, hp3_0, hp3_1, hp3_2, hp3_3⟩
  have fr3 := fr2.then fq3 (by simp)
  have wf3 := wf2.u69 hp3_0 (by omega)
  have dq3 := dq2.u69 hp3_0 (by omega)
  have ev : z3 = drF (znF (znF (tA t 69 0))) := by rw [hp3_1, ea]
  have ea : tA t3 69 0 = znF (znF (tA t 69 0)) := by rw [hp3_0, tA_uA, if_pos ⟨rfl, rfl⟩, ea]
  have eb : tA t3 69 3 = tA t 69 3 := by rw [hp3_0, tA_uA, if_neg (by decide)]; exact eb
  have ec : tA t3 69 2 = tA t 69 2 := by rw [hp3_0, tA_uA, if_neg (by decide)]; exact ec
  have gl := gl.u hp3_0 (Or.inl rfl)
  refine w_push kc_100 ?_
  refine w_rem (by omega) ?_
  refine w_aload rfl ?_
  refine w_getR (g_68_0 _) ?_
  refine w_push kc_3 ?_
  refine w_iald (i := 3) (ai_69 _) (by omega) (by omega) (ax_69 nr_3) ok3 (fun z4 hz4 hl4 hh4 => ?_)
  have ew : z4 = tA t 69 3 := by rw [hz4, eb]
  refine w_cge (by omega) (fun h5 => ?_) (fun h5 => ?_)
  · skip
    refine w_step rfl ?_
    have gl : GRp t t3 (dyF (tA t 69 1).toNat (OA t 69) (tA t 69 3) (tA t 69 0) (RPt t)) := by first | exact gl | exact gr_d1 (w := tA t 69 3) (tr_0 okh gl (by omega) (by omega)) (by rw [← ev, ← ew]; omega) | exact gr_d0 (w := tA t 69 3) gl (by rw [← ev, ← ew]; omega) | omega
    refine w_aload rfl ?_
    refine w_getR (g_68_0 _) ?_
    refine w_push kc_2 ?_
    refine w_dup2 ?_
    refine w_iald (i := 2) (ai_69 _) (by omega) (by omega) (ax_69 nr_2) ok3 (fun z6 hz6 hl6 hh6 => ?_)
    refine w_push kc_1 ?_
    refine w_addW (fun z7 hz7 hl7 hh7 => ?_)
    refine w_iast (i := 2) (ai_69 _) rfl (by omega) (by omega) (ax_69 nr_2) ok3 (by omega) (fun t8 ht8 ok8 => ?_)
    have fr8 := fr3.uA ht8 (by simp)
    have wf8 := wf3.u69 ht8 (by omega)
    have dq8 := dq3.u69 ht8 (by omega)
    refine w_retV ?_
    exact ⟨ok8, fr8, dq8, (by rw [ht8, tA_uA, if_neg (by decide), ea]; unfold zdF; rw [← ev, ← ew]; first | rw [if_pos (by omega)] | rw [if_neg (by omega)]), (by intro h0 h1; rw [ht8, tA_uA, if_pos ⟨rfl, rfl⟩, hz7, nrm_id (by omega)]; omega), (gl.u ht8 (Or.inr rfl))⟩
  refine w_aload rfl ?_
  refine w_aload rfl ?_
  refine w_callV0I (oj_68 _).choose_spec rfl (c_X9_draw ok3) ?_
  rintro z9 t9 ⟨ok9, fq9, hp9_0, hp9_1, hp9_2, hp9_3⟩
  have fr9 := fr3.then fq9 (by simp)
  have wf9 := wf3.u69 hp9_0 (by omega)
  have dq9 := dq3.u69 hp9_0 (by omega)
  have ev3 : z9 = drF (znF (znF (znF (tA t 69 0)))) := by rw [hp9_1, ea]
  have ea : tA t9 69 0 = znF (znF (znF (tA t 69 0))) := by rw [hp9_0, tA_uA, if_pos ⟨rfl, rfl⟩, ea]
  have ec : tA t9 69 2 = tA t 69 2 := by rw [hp9_0, tA_uA, if_neg (by decide)]; exact ec
  have gl := gl.u hp9_0 (Or.inl rfl)
  have okh := ok9
  refine w_push kc_12 ?_
  refine w_rem (by omega) ?_
  refine w_callV1I (oj_68 _).choose_spec rfl (e_X9_holder ok9 (by omega) (by omega)) ?_
  rintro z10 t10 ⟨rfl, hp10_0, hp10_1, hp10_2⟩
  rw [ev3] at hp10_2
  refine w_istore (lv' := [some (.ref 68), some (.int (jI z10))]) rfl ?_
  refine w_iload rfl ?_
  refine w_ilt (by omega) (fun h11 => ?_) (fun h11 => ?_)
  · skip
    refine w_step rfl ?_
    have gl : GRp t t9 (dyF (tA t 69 1).toNat (OA t 69) (tA t 69 3) (tA t 69 0) (RPt t)) := by first | exact gl | exact gr_d1 (w := tA t 69 3) (tr_0 okh gl (by omega) (by omega)) (by rw [← ev, ← ew]; omega) | exact gr_d0 (w := tA t 69 3) gl (by rw [← ev, ← ew]; omega) | omega
    refine w_aload rfl ?_
    refine w_getR (g_68_0 _) ?_
    refine w_push kc_2 ?_
    refine w_dup2 ?_
    refine w_iald (i := 2) (ai_69 _) (by omega) (by omega) (ax_69 nr_2) ok9 (fun z12 hz12 hl12 hh12 => ?_)
    refine w_push kc_1 ?_
    refine w_addW (fun z13 hz13 hl13 hh13 => ?_)
    refine w_iast (i := 2) (ai_69 _) rfl (by omega) (by omega) (ax_69 nr_2) ok9 (by omega) (fun t14 ht14 ok14 => ?_)
    have fr14 := fr9.uA ht14 (by simp)
    have wf14 := wf9.u69 ht14 (by omega)
    have dq14 := dq9.u69 ht14 (by omega)
    refine w_retV ?_
    exact ⟨ok14, fr14, dq14, (by rw [ht14, tA_uA, if_neg (by decide), ea]; unfold zdF; rw [← ev, ← ew]; first | rw [if_pos (by omega)] | rw [if_neg (by omega)]), (by intro h0 h1; rw [ht14, tA_uA, if_pos ⟨rfl, rfl⟩, hz13, nrm_id (by omega)]; omega), (gl.u ht14 (Or.inr rfl))⟩
  refine w_aload rfl ?_
  refine w_getR (g_68_0 _) ?_
  refine w_push kc_29 ?_
  refine w_push kc_5 ?_
  refine w_iload rfl ?_
  refine w_mul ?_
  refine w_add ?_
  refine w_push kc_4 ?_
  refine w_add ?_
  refine w_push kc_1 ?_
  refine w_aload rfl ?_
  refine w_iload rfl ?_
  refine w_push kc_4 ?_
  refine w_callV2I (oj_68 _).choose_spec rfl (c_X9_of ok9 (by omega) (by omega) (by omega) (by omega)) ?_
  rintro z15 t15 ⟨rfl, hp15_0, hp15_1, hp15_2⟩
  have hr15 := of_r4 (s := z10) ok9 (by omega)
  have eT := hp15_0
  refine w_sub ?_
  refine w_iast (i := (((29 + (5 * z10)) + 4)).toNat) (ai_69 _) rfl (by omega) (by omega) (ax_69 (nr_S4 (s := z10.toNat) (by omega))) ok9 (by omega) (fun t16 ht16 ok16 => ?_)
  have fr16 := fr9.uA ht16 (by simp)
  have wf16 := wf9.u69 ht16 (by omega)
  have dq16 := dq9.u69 ht16 (by omega)
  have ea : tA t16 69 0 = znF (znF (znF (tA t 69 0))) := by rw [ht16, tA_uA, if_neg (by omega)]; exact ea
  have ec : tA t16 69 2 = tA t 69 2 := by rw [ht16, tA_uA, if_neg (by omega)]; exact ec
  have gl := gr_d1 (w := tA t 69 3) (tr_1 (v := t16) okh gl (by omega) hp10_2 (by omega) (by rw [ht16, eT, show (29 + 5 * z10 + 4).toNat = 33 + 5 * z10.toNat by omega])) (by rw [← ev, ← ew]; omega)
  refine w_goto ?_
  refine w_step rfl ?_
  have gl : GRp t t16 (dyF (tA t 69 1).toNat (OA t 69) (tA t 69 3) (tA t 69 0) (RPt t)) := by first | exact gl | exact gr_d1 (w := tA t 69 3) (tr_0 okh gl (by omega) (by omega)) (by rw [← ev, ← ew]; omega) | exact gr_d0 (w := tA t 69 3) gl (by rw [← ev, ← ew]; omega) | omega
  refine w_aload rfl ?_
  refine w_getR (g_68_0 _) ?_
  refine w_push kc_2 ?_
  refine w_dup2 ?_
  refine w_iald (i := 2) (ai_69 _) (by omega) (by omega) (ax_69 nr_2) ok16 (fun z17 hz17 hl17 hh17 => ?_)
  refine w_push kc_1 ?_
  refine w_addW (fun z18 hz18 hl18 hh18 => ?_)
  refine w_iast (i := 2) (ai_69 _) rfl (by omega) (by omega) (ax_69 nr_2) ok16 (by omega) (fun t19 ht19 ok19 => ?_)
  have fr19 := fr16.uA ht19 (by simp)
  have wf19 := wf16.u69 ht19 (by omega)
  have dq19 := dq16.u69 ht19 (by omega)
  refine w_retV ?_
  exact ⟨ok19, fr19, dq19, (by rw [ht19, tA_uA, if_neg (by decide), ea]; unfold zdF; rw [← ev, ← ew]; first | rw [if_pos (by omega)] | rw [if_neg (by omega)]), (by intro h0 h1; rw [ht19, tA_uA, if_pos ⟨rfl, rfl⟩, hz18, nrm_id (by omega)]; omega), (gl.u ht19 (Or.inr rfl))⟩
set_option maxRecDepth 100000 in
set_option maxHeartbeats 4000000 in
theorem e_X9_goesOn {d : Nat} {t : TS} {n : Int}  (ok : OK t) (q0 : WF t 69) (q1 : NZ t 69) (q2 : AWp t) (q3 : -2147483648 ≤ n) (q4 : n ≤ 2147483647) (q5 : n ≤ 1000) : CV (EX FU (d + 7)) 160 [.ref 68, .int (jI n)] (mk t) (fun t' => OK t' ∧ Fr [(69, 100), (81, 100), (82, 100)] t t' ∧ (Dq t t') ∧ (tA t' 69 0 = zdsF n.toNat (tA t 69 0) (tA t 69 3)) ∧ (0 ≤ n → 0 ≤ tA t 69 2 → tA t 69 2 + n ≤ 1000000 → tA t' 69 2 = tA t 69 2 + n) ∧ (GRp t t' (dysF (tA t 69 1).toNat (OA t 69) (tA t 69 3) (tA t 69 0) n.toNat (RPt t)))) := by
  refine CV_ent (d := d + 6) (Bk := bX9_goesOn) (nL := 3) rfl rfl rfl (Nat.le_of_ble_eq_true rfl) ?_
  show Rn _ 1000000 0 [some (.ref 68), some (.int (jI n)), none] [] _ _
  have fr : Fr [(69, 100), (81, 100), (82, 100)] t t := Fr.rf _ _
  have hn0 := (ok.a (ax_69 nr_1)).1
  have hn1 := (ok.a (ax_69 nr_1)).2
  have dq : Dq t t := Dq.rf t
  refine w_step rfl ?_
  refine w_push kc_0 ?_
  refine w_istore (lv' := [some (.ref 68), some (.int (jI n)), some (.int (jI 0))]) rfl ?_
  refine w_goto ?_
  have key1 : ∀ (n1 M1 : Nat) (i : Int) (t1 : TS), OK t1 → Fr [(69, 100), (81, 100), (82, 100)] t t1 → WF t1 69 → Dq t t1 → (0 ≤ i) → (i ≤ 1000) → (i ≤ n ∨ i = 0) → (tA t1 69 3 = tA t 69 3) → (tA t1 69 0 = zdsF i.toNat (tA t 69 0) (tA t 69 3)) → (0 ≤ tA t 69 2 → tA t 69 2 + n ≤ 1000000 → tA t1 69 2 = tA t 69 2 + i) → (GRp t t1 (dysF (tA t 69 1).toNat (OA t 69) (tA t 69 3) (tA t 69 0) i.toNat (RPt t))) → 1000 - i < (n1 : Int) → 60 * n1 + (1000) ≤ M1 → Rn (bX9_goesOn (EX FU (d + 6))) M1 1 [some (.ref 68), some (.int (jI n)), some (.int (jI i))] [] (mk t1) (PV (fun t' => OK t' ∧ Fr [(69, 100), (81, 100), (82, 100)] t t' ∧ (Dq t t') ∧ (tA t' 69 0 = zdsF n.toNat (tA t 69 0) (tA t 69 3)) ∧ (0 ≤ n → 0 ≤ tA t 69 2 → tA t 69 2 + n ≤ 1000000 → tA t' 69 2 = tA t 69 2 + n) ∧ (GRp t t' (dysF (tA t 69 1).toNat (OA t 69) (tA t 69 3) (tA t 69 0) n.toNat (RPt t))))) := by
    intro n1
    induction n1 with
    | zero => intro M1 i t1 ok1 fr1 wf1 dq1 i1_0 i1_1 i1_2 i1_3 i1_4 i1_5 i1_6 v1 f1; exfalso; omega
    | succ n1 ih1 =>
      intro M1 i t1 ok1 fr1 wf1 dq1 i1_0 i1_1 i1_2 i1_3 i1_4 i1_5 i1_6 v1 f1
      obtain ⟨M1, rfl⟩ : ∃ m, M1 = m + 60 := ⟨M1 - 60, by omega⟩
      refine w_step rfl ?_
      refine w_iload rfl ?_
      refine w_iload rfl ?_
      refine w_cge (by omega) (fun h2 => ?_) (fun h2 => ?_)
      · skip
        refine w_step rfl ?_
        refine w_retV ?_
        exact ⟨ok1, fr1, dq1, (by rw [i1_4, show n.toNat = i.toNat by omega]), (by intro h h0 h1; have e1 := i1_5 h0 h1; omega), (by rw [show n.toNat = i.toNat by omega]; exact i1_6)⟩
      refine w_aload rfl ?_
      refine w_callV0V (oj_68 _).choose_spec rfl (e_X9_day ok1 wf1 (by intro k hk; rw [dq1 4 (by decide) (by decide) (by decide)] at hk; rw [dq1 _ (by omega) (by omega) (by omega)]; exact q1 k hk) i1_6.2.1) ?_
      rintro t3 ⟨ok3, fq3, hp3_0, hp3_1, hp3_2, hp3_3⟩
      have fr3 := fr1.then fq3 (by simp)
      have wf3 := wf1.dq hp3_0
      have dq3 := dq1.trans hp3_0
      have gl : GRp t t3 (dysF (tA t 69 1).toNat (OA t 69) (tA t 69 3) (tA t 69 0) (i + 1).toNat (RPt t)) := by
        rw [show (i + 1).toNat = i.toNat + 1 by omega]
        have g2 := hp3_3
        rw [i1_3] at g2
        exact gr_s i1_6 g2 i1_4
      have ez : tA t3 69 0 = zdsF (i + 1).toNat (tA t 69 0) (tA t 69 3) := by rw [hp3_1, i1_4, i1_3, show (i + 1).toNat = i.toNat + 1 by omega]; rfl
      have ed := hp3_2
      refine w_iinc (lv' := [some (.ref 68), some (.int (jI n)), some (.int (jI (i + 1)))]) kc_1 rfl rfl ?_
      refine w_goto ?_
      exact ih1 _ (i + 1) t3 ok3 fr3 wf3 dq3 (by omega) (by omega) (by omega) (dq3 3 (by decide) (by decide) (by decide)) ez (by intro h0 h1; have e1 := i1_5 h0 h1; have e2 := ed (by omega) (by omega); omega) gl (by omega) (by omega)
  exact key1 1001 _ 0 t ok fr q0 dq (by omega) (by omega) (by omega) rfl rfl (by intro _ _; omega) (GRp.rf q2) (by omega) (by omega)
set_option maxRecDepth 100000 in
set_option maxHeartbeats 4000000 in
theorem e_X9_picture {d : Nat} {t : TS}  (ok : OK t) (q0 : WF t 69) (q1 : NZ t 69) (q2 : AWp t) : CI (EX FU (d + 5)) 162 [.ref 68] (mk t) (fun z t' => OK t' ∧ Fr [(81, 100), (82, 100)] t t' ∧ (0 ≤ z) ∧ (z ≤ 2376) ∧ (z = picG (tA t 69 1).toNat (OA t 69) (RPt t))) := by
  refine CI_ent (d := d + 4) (Bk := bX9_picture) (nL := 4) rfl rfl rfl (Nat.le_of_ble_eq_true rfl) ?_
  show Rn _ 1000000 0 [some (.ref 68), none, none, none] [] _ _
  have fr : Fr [(81, 100), (82, 100)] t t := Fr.rf _ _
  have hn0 := (ok.a (ax_69 nr_1)).1
  have hn1 := (ok.a (ax_69 nr_1)).2
  refine w_step rfl ?_
  refine w_push kc_0 ?_
  refine w_istore (lv' := [some (.ref 68), some (.int (jI 0)), none, none]) rfl ?_
  refine w_push kc_0 ?_
  refine w_istore (lv' := [some (.ref 68), some (.int (jI 0)), some (.int (jI 0)), none]) rfl ?_
  refine w_goto ?_
  have key1 : ∀ (n1 M1 : Nat) (acc : Int) (p : Int) (o3 : Option Int) (t1 : TS), OK t1 → Fr [(81, 100), (82, 100)] t t1 → WF t1 69 → (0 ≤ p) → (p ≤ 12) → (0 ≤ acc) → (acc ≤ 198 * p) → (acc = picH (OA t 69) (RPt t).2 (HF (RPt t).1 (tA t 69 1).toNat) p.toNat) → 12 - p < (n1 : Int) → 60 * n1 + (1000) ≤ M1 → Rn (bX9_picture (EX FU (d + 4))) M1 1 [some (.ref 68), some (.int (jI acc)), some (.int (jI p)), dv o3] [] (mk t1) (PI (fun z t' => OK t' ∧ Fr [(81, 100), (82, 100)] t t' ∧ (0 ≤ z) ∧ (z ≤ 2376) ∧ (z = picG (tA t 69 1).toNat (OA t 69) (RPt t)))) := by
    intro n1
    induction n1 with
    | zero => intro M1 acc p o3 t1 ok1 fr1 wf1 i1_0 i1_1 i1_2 i1_3 i1_4 v1 f1; exfalso; omega
    | succ n1 ih1 =>
      intro M1 acc p o3 t1 ok1 fr1 wf1 i1_0 i1_1 i1_2 i1_3 i1_4 v1 f1
      obtain ⟨M1, rfl⟩ : ∃ m, M1 = m + 60 := ⟨M1 - 60, by omega⟩
      have frc := fr1
      refine w_step rfl ?_
      refine w_iload rfl ?_
      refine w_push kc_12 ?_
      refine w_cge (by omega) (fun h2 => ?_) (fun h2 => ?_)
      · skip
        refine w_step rfl ?_
        refine w_iload rfl ?_
        refine w_retI rfl ?_
        exact ⟨ok1, fr1, (by omega), (by omega), (by rw [i1_4, show p.toNat = 12 by omega]; rfl)⟩
      refine w_aload rfl ?_
      refine w_iload rfl ?_
      refine w_callV1I (oj_68 _).choose_spec rfl (e_X9_holder ok1 (by omega) (by omega)) ?_
      rintro z3 t3 ⟨rfl, hp3_0, hp3_1, hp3_2⟩
      have hq : z3 = HF (RPt t).1 (tA t 69 1).toNat p.toNat := by
        rw [hp3_2, rh_e ok1 (aw_fr q2 fr1 (by simp) (by simp)) (by omega), rp_fr fr1 (by simp) (by simp), fr1.2.1 69 (by simp)]
      refine w_istore (lv' := [some (.ref 68), some (.int (jI acc)), some (.int (jI p)), some (.int (jI z3))]) rfl ?_
      refine w_iload rfl ?_
      refine w_iload rfl ?_
      refine w_ige (by omega) (fun h4 => ?_) (fun h4 => ?_)
      · skip
        refine w_step rfl ?_
        refine w_aload rfl ?_
        refine w_iload rfl ?_
        refine w_iload rfl ?_
        refine w_aload rfl ?_
        refine w_iload rfl ?_
        refine w_push kc_4 ?_
        refine w_callV2I (oj_68 _).choose_spec rfl (c_X9_of ok1 (by omega) (by omega) (by omega) (by omega)) ?_
        rintro z5 t5 ⟨rfl, hp5_0, hp5_1, hp5_2⟩
        have hr5 := of_r4 (s := z3) ok1 (by omega)
        have hu : z5 = (RPt t).2 (z3).toNat := by
          rw [hp5_0, fr1.2.1 69 (by simp)]
          show _ = tA t 69 (33 + 5 * _)
          congr 1
          omega
        refine w_callV3I (oj_68 _).choose_spec rfl (e_X9_offOf ok1 wf1 (by intro k hk; have e := fr1.2.1 69 (by simp); rw [e] at hk ⊢; exact q1 k hk) (by omega) (by omega) (by omega) (by omega) (by omega) (by omega)) ?_
        rintro z6 t6 ⟨ok6, fq6, hp6_0, hp6_1, hp6_2⟩
        have fr6 := fr1.then fq6 (by simp)
        have wf6 := wf1.fr fq6 (by simp)
        have ho : z6 = OA t 69 z3.toNat p.toNat z5.toNat := by rw [hp6_2, OA_fr frc (by simp)]
        refine w_goto ?_
        refine w_step rfl ?_
        refine w_add ?_
        refine w_istore (lv' := [some (.ref 68), some (.int (jI (acc + z6))), some (.int (jI p)), some (.int (jI z3))]) rfl ?_
        refine w_iinc (lv' := [some (.ref 68), some (.int (jI (acc + z6))), some (.int (jI (p + 1))), some (.int (jI z3))]) kc_1 rfl rfl ?_
        refine w_goto ?_
        exact ih1 _ (acc + z6) (p + 1) (some z3) t6 ok6 fr6 wf6 (by omega) (by omega) (by omega) (by omega) (pic_s i1_0 i1_4 (by rw [← hq]; first | exact Or.inl ⟨by omega, rfl⟩ | exact Or.inr ⟨by omega, by rw [ho, hu]⟩ | omega)) (by omega) (by omega)
      refine w_push kc_198 ?_
      refine w_goto ?_
      refine w_step rfl ?_
      refine w_add ?_
      refine w_istore (lv' := [some (.ref 68), some (.int (jI (acc + 198))), some (.int (jI p)), some (.int (jI z3))]) rfl ?_
      refine w_iinc (lv' := [some (.ref 68), some (.int (jI (acc + 198))), some (.int (jI (p + 1))), some (.int (jI z3))]) kc_1 rfl rfl ?_
      refine w_goto ?_
      exact ih1 _ (acc + 198) (p + 1) (some z3) t1 ok1 fr1 wf1 (by omega) (by omega) (by omega) (by omega) (pic_s i1_0 i1_4 (by rw [← hq]; first | exact Or.inl ⟨by omega, rfl⟩ | exact Or.inr ⟨by omega, by rw [ho, hu]⟩ | omega)) (by omega) (by omega)
  exact key1 13 _ 0 0 none t ok fr q0 (by omega) (by omega) (by omega) (by omega) rfl (by omega) (by omega)
set_option maxRecDepth 100000 in
set_option maxHeartbeats 4000000 in
theorem e_X9_matches {d : Nat} {t : TS}  (ok : OK t) (q0 : AWp t) : CI (EX FU (d + 3)) 163 [.ref 68] (mk t) (fun z t' => t = t' ∧ (0 ≤ z) ∧ (z ≤ 11) ∧ (z = matG (tA t 69 1).toNat (LA t 69) (RA t 69) (RPt t))) := by
  refine CI_ent (d := d + 2) (Bk := bX9_matches) (nL := 5) rfl rfl rfl (Nat.le_of_ble_eq_true rfl) ?_
  show Rn _ 1000000 0 [some (.ref 68), none, none, none, none] [] _ _
  have hn0 := (ok.a (ax_69 nr_1)).1
  have hn1 := (ok.a (ax_69 nr_1)).2
  refine w_step rfl ?_
  refine w_push kc_0 ?_
  refine w_istore (lv' := [some (.ref 68), some (.int (jI 0)), none, none, none]) rfl ?_
  refine w_push kc_0 ?_
  refine w_istore (lv' := [some (.ref 68), some (.int (jI 0)), some (.int (jI 0)), none, none]) rfl ?_
  refine w_goto ?_
  have key1 : ∀ (n1 M1 : Nat) (acc : Int) (p : Int) (o3 : Option Int) (o4 : Option Int), (0 ≤ p) → (p ≤ 11) → (0 ≤ acc) → (acc ≤ p) → (acc = maH (LA t 69) (RA t 69) (RPt t).2 (HF (RPt t).1 (tA t 69 1).toNat) p.toNat) → 11 - p < (n1 : Int) → 60 * n1 + (1000) ≤ M1 → Rn (bX9_matches (EX FU (d + 2))) M1 1 [some (.ref 68), some (.int (jI acc)), some (.int (jI p)), dv o3, dv o4] [] (mk t) (PI (fun z t' => t = t' ∧ (0 ≤ z) ∧ (z ≤ 11) ∧ (z = matG (tA t 69 1).toNat (LA t 69) (RA t 69) (RPt t)))) := by
    intro n1
    induction n1 with
    | zero => intro M1 acc p o3 o4 i1_0 i1_1 i1_2 i1_3 i1_4 v1 f1; exfalso; omega
    | succ n1 ih1 =>
      intro M1 acc p o3 o4 i1_0 i1_1 i1_2 i1_3 i1_4 v1 f1
      obtain ⟨M1, rfl⟩ : ∃ m, M1 = m + 60 := ⟨M1 - 60, by omega⟩
      refine w_step rfl ?_
      refine w_iload rfl ?_
      refine w_push kc_11 ?_
      refine w_cge (by omega) (fun h1 => ?_) (fun h1 => ?_)
      · skip
        refine w_step rfl ?_
        refine w_iload rfl ?_
        refine w_retI rfl ?_
        exact ⟨rfl, (by omega), (by omega), (by rw [i1_4, show p.toNat = 11 by omega]; rfl)⟩
      refine w_aload rfl ?_
      refine w_iload rfl ?_
      refine w_callV1I (oj_68 _).choose_spec rfl (e_X9_holder ok (by omega) (by omega)) ?_
      rintro z2 t2 ⟨rfl, hp2_0, hp2_1, hp2_2⟩
      have hq : z2 = HF (RPt t).1 (tA t 69 1).toNat p.toNat := by rw [hp2_2, rh_e ok q0 (by omega)]
      refine w_istore (lv' := [some (.ref 68), some (.int (jI acc)), some (.int (jI p)), some (.int (jI z2)), dv o4]) rfl ?_
      refine w_aload rfl ?_
      refine w_iload rfl ?_
      refine w_push kc_1 ?_
      refine w_add ?_
      refine w_callV1I (oj_68 _).choose_spec rfl (e_X9_holder ok (by omega) (by omega)) ?_
      rintro z3 t3 ⟨rfl, hp3_0, hp3_1, hp3_2⟩
      have hq2 : z3 = HF (RPt t).1 (tA t 69 1).toNat (p.toNat + 1) := by rw [hp3_2, rh_e ok q0 (by omega), show (p + 1).toNat = p.toNat + 1 by omega]
      refine w_istore (lv' := [some (.ref 68), some (.int (jI acc)), some (.int (jI p)), some (.int (jI z2)), some (.int (jI z3))]) rfl ?_
      refine w_iload rfl ?_
      refine w_push kc_3 ?_
      refine w_rem (by omega) ?_
      refine w_push kc_2 ?_
      refine w_cge (by omega) (fun h4 => ?_) (fun h4 => ?_)
      · skip
        refine w_step rfl ?_
        refine w_iinc (lv' := [some (.ref 68), some (.int (jI acc)), some (.int (jI (p + 1))), some (.int (jI z2)), some (.int (jI z3))]) kc_1 rfl rfl ?_
        refine w_goto ?_
        exact ih1 _ acc (p + 1) (some z2) (some z3)  (by omega) (by omega) (by omega) (by omega) (ma_s i1_0 i1_4 (by unfold mtP; first | exact Or.inl ⟨⟨by omega, by omega, by omega, by omega⟩, by omega⟩ | exact Or.inr ⟨fun h => by omega, by omega⟩)) (by omega) (by omega)
      refine w_iload rfl ?_
      refine w_ilt (by omega) (fun h5 => ?_) (fun h5 => ?_)
      · skip
        refine w_step rfl ?_
        refine w_iinc (lv' := [some (.ref 68), some (.int (jI acc)), some (.int (jI (p + 1))), some (.int (jI z2)), some (.int (jI z3))]) kc_1 rfl rfl ?_
        refine w_goto ?_
        exact ih1 _ acc (p + 1) (some z2) (some z3)  (by omega) (by omega) (by omega) (by omega) (ma_s i1_0 i1_4 (by unfold mtP; first | exact Or.inl ⟨⟨by omega, by omega, by omega, by omega⟩, by omega⟩ | exact Or.inr ⟨fun h => by omega, by omega⟩)) (by omega) (by omega)
      refine w_iload rfl ?_
      refine w_ilt (by omega) (fun h6 => ?_) (fun h6 => ?_)
      · skip
        refine w_step rfl ?_
        refine w_iinc (lv' := [some (.ref 68), some (.int (jI acc)), some (.int (jI (p + 1))), some (.int (jI z2)), some (.int (jI z3))]) kc_1 rfl rfl ?_
        refine w_goto ?_
        exact ih1 _ acc (p + 1) (some z2) (some z3)  (by omega) (by omega) (by omega) (by omega) (ma_s i1_0 i1_4 (by unfold mtP; first | exact Or.inl ⟨⟨by omega, by omega, by omega, by omega⟩, by omega⟩ | exact Or.inr ⟨fun h => by omega, by omega⟩)) (by omega) (by omega)
      refine w_iload rfl ?_
      refine w_aload rfl ?_
      refine w_iload rfl ?_
      refine w_push kc_1 ?_
      refine w_aload rfl ?_
      refine w_iload rfl ?_
      refine w_push kc_4 ?_
      refine w_callV2I (oj_68 _).choose_spec rfl (c_X9_of ok (by omega) (by omega) (by omega) (by omega)) ?_
      rintro z7 t7 ⟨rfl, hp7_0, hp7_1, hp7_2⟩
      have hr7 := of_r4 (s := z2) ok (by omega)
      refine w_callV3I (oj_68 _).choose_spec rfl (e_X9_spotsOf ok (by omega) (by omega) (by omega) (by omega) (by omega) (by omega)) ?_
      rintro z8 t8 ⟨rfl, hp8_0, hp8_1, hp8_2⟩
      have hs1 : z8 = spF2 (LA t 69) (RA t 69) (HF (RPt t).1 (tA t 69 1).toNat p.toNat).toNat 1 ((RPt t).2 (HF (RPt t).1 (tA t 69 1).toNat p.toNat).toNat) := by
        rw [hp8_2, ← hq, hp7_0]
        unfold spR
        congr 1
        show _ = tA t 69 (33 + 5 * _)
        congr 1
        omega
      refine w_aload rfl ?_
      refine w_iload rfl ?_
      refine w_push kc_0 ?_
      refine w_aload rfl ?_
      refine w_iload rfl ?_
      refine w_push kc_4 ?_
      refine w_callV2I (oj_68 _).choose_spec rfl (c_X9_of ok (by omega) (by omega) (by omega) (by omega)) ?_
      rintro z9 t9 ⟨rfl, hp9_0, hp9_1, hp9_2⟩
      have hr9 := of_r4 (s := z3) ok (by omega)
      refine w_callV3I (oj_68 _).choose_spec rfl (e_X9_spotsOf ok (by omega) (by omega) (by omega) (by omega) (by omega) (by omega)) ?_
      rintro z10 t10 ⟨rfl, hp10_0, hp10_1, hp10_2⟩
      have hs2 : z10 = spF2 (LA t 69) (RA t 69) (HF (RPt t).1 (tA t 69 1).toNat (p.toNat + 1)).toNat 0 ((RPt t).2 (HF (RPt t).1 (tA t 69 1).toNat (p.toNat + 1)).toNat) := by
        rw [hp10_2, ← hq2, hp9_0]
        unfold spR
        congr 1
        show _ = tA t 69 (33 + 5 * _)
        congr 1
        omega
      refine w_cne (by omega) (fun h11 => ?_) (fun h11 => ?_)
      · skip
        refine w_step rfl ?_
        refine w_push kc_0 ?_
        refine w_goto ?_
        refine w_step rfl ?_
        refine w_add ?_
        refine w_istore (lv' := [some (.ref 68), some (.int (jI (acc + 0))), some (.int (jI p)), some (.int (jI z2)), some (.int (jI z3))]) rfl ?_
        refine w_goto ?_
        refine w_step rfl ?_
        refine w_iinc (lv' := [some (.ref 68), some (.int (jI (acc + 0))), some (.int (jI (p + 1))), some (.int (jI z2)), some (.int (jI z3))]) kc_1 rfl rfl ?_
        refine w_goto ?_
        exact ih1 _ (acc + 0) (p + 1) (some z2) (some z3)  (by omega) (by omega) (by omega) (by omega) (ma_s i1_0 i1_4 (by unfold mtP; first | exact Or.inl ⟨⟨by omega, by omega, by omega, by omega⟩, by omega⟩ | exact Or.inr ⟨fun h => by omega, by omega⟩)) (by omega) (by omega)
      refine w_push kc_1 ?_
      refine w_goto ?_
      refine w_step rfl ?_
      refine w_add ?_
      refine w_istore (lv' := [some (.ref 68), some (.int (jI (acc + 1))), some (.int (jI p)), some (.int (jI z2)), some (.int (jI z3))]) rfl ?_
      refine w_goto ?_
      refine w_step rfl ?_
      refine w_iinc (lv' := [some (.ref 68), some (.int (jI (acc + 1))), some (.int (jI (p + 1))), some (.int (jI z2)), some (.int (jI z3))]) kc_1 rfl rfl ?_
      refine w_goto ?_
      exact ih1 _ (acc + 1) (p + 1) (some z2) (some z3)  (by omega) (by omega) (by omega) (by omega) (ma_s i1_0 i1_4 (by unfold mtP; first | exact Or.inl ⟨⟨by omega, by omega, by omega, by omega⟩, by omega⟩ | exact Or.inr ⟨fun h => by omega, by omega⟩)) (by omega) (by omega)
  exact key1 13 _ 0 0 none none  (by omega) (by omega) (by omega) (by omega) rfl (by omega) (by omega)
set_option maxRecDepth 100000 in
set_option maxHeartbeats 4000000 in
theorem e_X9_leastAt {d : Nat} {t : TS} {s p : Int}  (ok : OK t) (q0 : WF t 69) (q1 : NZ t 69) (q2 : 0 ≤ s) (q3 : s ≤ 11) (q4 : 0 ≤ p) (q5 : p ≤ 11) : CI (EX FU (d + 5)) 166 [.ref 68, .int (jI s), .int (jI p)] (mk t) (fun z t' => OK t' ∧ Fr [(81, 100), (82, 100)] t t' ∧ (0 ≤ z) ∧ (z ≤ 198) ∧ (z = min (OA t 69 s.toNat p.toNat 0) (OA t 69 s.toNat p.toNat 1))) := by
  refine CI_ent (d := d + 4) (Bk := bX9_leastAt) (nL := 5) rfl rfl rfl (Nat.le_of_ble_eq_true rfl) ?_
  show Rn _ 1000000 0 [some (.ref 68), some (.int (jI s)), some (.int (jI p)), none, none] [] _ _
  have fr : Fr [(81, 100), (82, 100)] t t := Fr.rf _ _
  have hn0 := (ok.a (ax_69 nr_1)).1
  have hn1 := (ok.a (ax_69 nr_1)).2
  refine w_step rfl ?_
  refine w_aload rfl ?_
  refine w_iload rfl ?_
  refine w_iload rfl ?_
  refine w_push kc_0 ?_
  refine w_callV3I (oj_68 _).choose_spec rfl (e_X9_offOf ok q0 (by intro k hk; have e := fr.2.1 69 (by simp); rw [e] at hk ⊢; exact q1 k hk) (by omega) (by omega) (by omega) (by omega) (by omega) (by omega)) ?_
  rintro z1 t1 ⟨ok1, fq1, hp1_0, hp1_1, hp1_2⟩
  have fr1 := fr.then fq1 (by simp)
  have wf1 := q0.fr fq1 (by simp)
  have h1 : z1 = OA t 69 s.toNat p.toNat 0 := hp1_2
  have frd := fr1
  refine w_istore (lv' := [some (.ref 68), some (.int (jI s)), some (.int (jI p)), some (.int (jI z1)), none]) rfl ?_
  refine w_aload rfl ?_
  refine w_iload rfl ?_
  refine w_iload rfl ?_
  refine w_push kc_1 ?_
  refine w_callV3I (oj_68 _).choose_spec rfl (e_X9_offOf ok1 wf1 (by intro k hk; have e := fr1.2.1 69 (by simp); rw [e] at hk ⊢; exact q1 k hk) (by omega) (by omega) (by omega) (by omega) (by omega) (by omega)) ?_
  rintro z2 t2 ⟨ok2, fq2, hp2_0, hp2_1, hp2_2⟩
  have fr2 := fr1.then fq2 (by simp)
  have wf2 := wf1.fr fq2 (by simp)
  have h2 : z2 = OA t 69 s.toNat p.toNat 1 := by rw [hp2_2, OA_fr frd (by simp)]; rfl
  refine w_istore (lv' := [some (.ref 68), some (.int (jI s)), some (.int (jI p)), some (.int (jI z1)), some (.int (jI z2))]) rfl ?_
  refine w_iload rfl ?_
  refine w_iload rfl ?_
  refine w_cge (by omega) (fun h3 => ?_) (fun h3 => ?_)
  · skip
    refine w_step rfl ?_
    refine w_iload rfl ?_
    refine w_goto ?_
    refine w_step rfl ?_
    refine w_retI rfl ?_
    exact ⟨ok2, fr2, (by omega), (by omega), (by omega)⟩
  refine w_iload rfl ?_
  refine w_goto ?_
  refine w_step rfl ?_
  refine w_retI rfl ?_
  exact ⟨ok2, fr2, (by omega), (by omega), (by omega)⟩
set_option maxRecDepth 100000 in
set_option maxHeartbeats 4000000 in
theorem e_X9_change {d : Nat} {t : TS} {x y : Int}  (ok : OK t) (q0 : 0 ≤ x) (q1 : x ≤ 11) (q2 : 0 ≤ y) (q3 : y ≤ 11) : CV (EX FU (d + 2)) 171 [.ref 68, .int (jI x), .int (jI y)] (mk t) (fun t' => OK t' ∧ Fr [(69, 100)] t t' ∧ (Dq t t') ∧ (tA t' 69 0 = tA t 69 0) ∧ (tA t' 69 2 = tA t 69 2) ∧ (∀ i, tA t' 69 i = if i = 32 + 5 * y.toNat then tA t 69 (32 + 5 * x.toNat) else if i = 32 + 5 * x.toNat then tA t 69 (32 + 5 * y.toNat) else tA t 69 i)) := by
  refine CV_ent (d := d + 1) (Bk := bX9_change) (nL := 4) rfl rfl rfl (Nat.le_of_ble_eq_true rfl) ?_
  show Rn _ 1000000 0 [some (.ref 68), some (.int (jI x)), some (.int (jI y)), none] [] _ _
  have fr : Fr [(69, 100)] t t := Fr.rf _ _
  have hn0 := (ok.a (ax_69 nr_1)).1
  have hn1 := (ok.a (ax_69 nr_1)).2
  have dq : Dq t t := Dq.rf t
  refine w_step rfl ?_
  refine w_aload rfl ?_
  refine w_iload rfl ?_
  refine w_push kc_3 ?_
  refine w_callV2I (oj_68 _).choose_spec rfl (c_X9_of ok (by omega) (by omega) (by omega) (by omega)) ?_
  rintro z1 t1 ⟨rfl, hp1_0, hp1_1, hp1_2⟩
  have hr1 := of_r3 (s := x) ok (by omega)
  have v1 : z1 = tA t 69 (32 + 5 * x.toNat) := by rw [hp1_0]; congr 1; omega
  refine w_istore (lv' := [some (.ref 68), some (.int (jI x)), some (.int (jI y)), some (.int (jI z1))]) rfl ?_
  refine w_aload rfl ?_
  refine w_getR (g_68_0 _) ?_
  refine w_push kc_29 ?_
  refine w_push kc_5 ?_
  refine w_iload rfl ?_
  refine w_mul ?_
  refine w_add ?_
  refine w_push kc_3 ?_
  refine w_add ?_
  refine w_aload rfl ?_
  refine w_iload rfl ?_
  refine w_push kc_3 ?_
  refine w_callV2I (oj_68 _).choose_spec rfl (c_X9_of ok (by omega) (by omega) (by omega) (by omega)) ?_
  rintro z2 t2 ⟨rfl, hp2_0, hp2_1, hp2_2⟩
  have hr2 := of_r3 (s := y) ok (by omega)
  have v2 : z2 = tA t 69 (32 + 5 * y.toNat) := by rw [hp2_0]; congr 1; omega
  refine w_iast (i := (((29 + (5 * x)) + 3)).toNat) (ai_69 _) rfl (by omega) (by omega) (ax_69 (nr_S3 (s := x.toNat) (by omega))) ok (by omega) (fun t3 ht3 ok3 => ?_)
  have fr3 := fr.uA ht3 (by simp)
  have dq3 := dq.u69 ht3 (by omega)
  have w1 := ht3
  refine w_aload rfl ?_
  refine w_getR (g_68_0 _) ?_
  refine w_push kc_29 ?_
  refine w_push kc_5 ?_
  refine w_iload rfl ?_
  refine w_mul ?_
  refine w_add ?_
  refine w_push kc_3 ?_
  refine w_add ?_
  refine w_iload rfl ?_
  refine w_iast (i := (((29 + (5 * y)) + 3)).toNat) (ai_69 _) rfl (by omega) (by omega) (ax_69 (nr_S3 (s := y.toNat) (by omega))) ok3 (by omega) (fun t4 ht4 ok4 => ?_)
  have fr4 := fr3.uA ht4 (by simp)
  have dq4 := dq3.u69 ht4 (by omega)
  have w2 := ht4
  refine w_retV ?_
  exact ⟨ok4, fr4, dq4, (by rw [w2, tA_uA, if_neg (by omega), w1, tA_uA, if_neg (by omega)]), (by rw [w2, tA_uA, if_neg (by omega), w1, tA_uA, if_neg (by omega)]), (by intro i; rw [w2, tA_uA, w1, tA_uA, v1, v2, show (29 + 5 * y + 3).toNat = 32 + 5 * y.toNat by omega, show (29 + 5 * x + 3).toNat = 32 + 5 * x.toNat by omega]; simp)⟩
set_option maxRecDepth 100000 in
set_option maxHeartbeats 4000000 in
theorem e_X9_falls {d : Nat} {t : TS} {p : Int}  (ok : OK t) (q0 : AWp t) (q1 : 0 ≤ p) (q2 : p ≤ 11) : CI (EX FU (d + 3)) 173 [.ref 68, .int (jI p)] (mk t) (fun z t' => t = t' ∧ (0 ≤ z) ∧ (z ≤ 12) ∧ (z = flF (hvA t 69) (HF (RPt t).1 (tA t 69 1).toNat) p.toNat)) := by
  refine CI_ent (d := d + 2) (Bk := bX9_falls) (nL := 6) rfl rfl rfl (Nat.le_of_ble_eq_true rfl) ?_
  show Rn _ 1000000 0 [some (.ref 68), some (.int (jI p)), none, none, none, none] [] _ _
  have hn0 := (ok.a (ax_69 nr_1)).1
  have hn1 := (ok.a (ax_69 nr_1)).2
  refine w_step rfl ?_
  refine w_push kc_0 ?_
  refine w_istore (lv' := [some (.ref 68), some (.int (jI p)), some (.int (jI 0)), none, none, none]) rfl ?_
  refine w_push kc_m1 ?_
  refine w_istore (lv' := [some (.ref 68), some (.int (jI p)), some (.int (jI 0)), some (.int (jI (-1))), none, none]) rfl ?_
  refine w_iload rfl ?_
  refine w_istore (lv' := [some (.ref 68), some (.int (jI p)), some (.int (jI 0)), some (.int (jI (-1))), some (.int (jI p)), none]) rfl ?_
  refine w_goto ?_
  have key1 : ∀ (n1 M1 : Nat) (n : Int) (w : Int) (i : Int) (o5 : Option Int), (p ≤ i) → (i ≤ 12) → (0 ≤ n) → (n ≤ i) → (-1 ≤ w) → (w ≤ 11) → ((w = -1 ∧ n = 0) ∨ (0 ≤ w ∧ 0 < n)) → (faS (hvA t 69) (HF (RPt t).1 (tA t 69 1).toNat) (12 - i).toNat i.toNat n (if w = -1 then 0 else hvA t 69 w.toNat) = flF (hvA t 69) (HF (RPt t).1 (tA t 69 1).toNat) p.toNat) → 12 - i < (n1 : Int) → 60 * n1 + (1000) ≤ M1 → Rn (bX9_falls (EX FU (d + 2))) M1 1 [some (.ref 68), some (.int (jI p)), some (.int (jI n)), some (.int (jI w)), some (.int (jI i)), dv o5] [] (mk t) (PI (fun z t' => t = t' ∧ (0 ≤ z) ∧ (z ≤ 12) ∧ (z = flF (hvA t 69) (HF (RPt t).1 (tA t 69 1).toNat) p.toNat))) := by
    intro n1
    induction n1 with
    | zero => intro M1 n w i o5 i1_0 i1_1 i1_2 i1_3 i1_4 i1_5 i1_6 i1_7 v1 f1; exfalso; omega
    | succ n1 ih1 =>
      intro M1 n w i o5 i1_0 i1_1 i1_2 i1_3 i1_4 i1_5 i1_6 i1_7 v1 f1
      obtain ⟨M1, rfl⟩ : ∃ m, M1 = m + 60 := ⟨M1 - 60, by omega⟩
      refine w_step rfl ?_
      refine w_iload rfl ?_
      refine w_push kc_12 ?_
      refine w_cge (by omega) (fun h1 => ?_) (fun h1 => ?_)
      · skip
        refine w_step rfl ?_
        refine w_iload rfl ?_
        refine w_retI rfl ?_
        exact ⟨rfl, (by omega), (by omega), (by rw [← i1_7]; first | exact (faS_e (by omega)).symm | exact (faS_0 (by omega) (Or.inl (by omega)) rfl).symm | exact (faS_0 (by omega) (Or.inr ⟨by omega, by omega, by rw [if_neg (by omega), ← hq, ← hv1, ← hv2]; omega⟩) rfl).symm)⟩
      refine w_aload rfl ?_
      refine w_iload rfl ?_
      refine w_callV1I (oj_68 _).choose_spec rfl (e_X9_holder ok (by omega) (by omega)) ?_
      rintro z2 t2 ⟨rfl, hp2_0, hp2_1, hp2_2⟩
      have hq : z2 = HF (RPt t).1 (tA t 69 1).toNat i.toNat := by rw [hp2_2, rh_e ok q0 (by omega)]
      have hhb := HF_b (RPt t).1 (tA t 69 1).toNat i.toNat
      refine w_istore (lv' := [some (.ref 68), some (.int (jI p)), some (.int (jI n)), some (.int (jI w)), some (.int (jI i)), some (.int (jI z2))]) rfl ?_
      refine w_iload rfl ?_
      refine w_ilt (by omega) (fun h3 => ?_) (fun h3 => ?_)
      · skip
        refine w_step rfl ?_
        refine w_iload rfl ?_
        refine w_retI rfl ?_
        exact ⟨rfl, (by omega), (by omega), (by rw [← i1_7]; first | exact (faS_e (by omega)).symm | exact (faS_0 (by omega) (Or.inl (by omega)) rfl).symm | exact (faS_0 (by omega) (Or.inr ⟨by omega, by omega, by rw [if_neg (by omega), ← hq, ← hv1, ← hv2]; omega⟩) rfl).symm)⟩
      refine w_iload rfl ?_
      refine w_ilt (by omega) (fun h4 => ?_) (fun h4 => ?_)
      · skip
        refine w_step rfl ?_
        refine w_iload rfl ?_
        refine w_istore (lv' := [some (.ref 68), some (.int (jI p)), some (.int (jI n)), some (.int (jI z2)), some (.int (jI i)), some (.int (jI z2))]) rfl ?_
        refine w_iinc (lv' := [some (.ref 68), some (.int (jI p)), some (.int (jI (n + 1))), some (.int (jI z2)), some (.int (jI i)), some (.int (jI z2))]) kc_1 rfl rfl ?_
        refine w_iinc (lv' := [some (.ref 68), some (.int (jI p)), some (.int (jI (n + 1))), some (.int (jI z2)), some (.int (jI (i + 1))), some (.int (jI z2))]) kc_1 rfl rfl ?_
        refine w_goto ?_
        exact ih1 _ (n + 1) z2 (i + 1) (some z2)  (by omega) (by omega) (by omega) (by omega) (by omega) (by omega) (by omega) (by rw [← i1_7, falls_s (by omega) hq (by omega) (by first | (rw [if_pos (by omega)]; omega) | (rw [if_neg (by omega), ← hv1, ← hv2]; omega)), if_neg (by omega)]) (by omega) (by omega)
      refine w_aload rfl ?_
      refine w_iload rfl ?_
      refine w_callV1I (oj_68 _).choose_spec rfl (c_X9_heavyOf ok (by omega) (by omega)) ?_
      rintro z5 t5 ⟨rfl, hp5_0, hp5_1, hp5_2⟩
      have hv1 : z5 = hvA t 69 z2.toNat := by
        rw [hp5_0]
        unfold hvA
        congr 2 <;> omega
      refine w_push kc_2 ?_
      refine w_aload rfl ?_
      refine w_iload rfl ?_
      refine w_callV1I (oj_68 _).choose_spec rfl (c_X9_heavyOf ok (by omega) (by omega)) ?_
      rintro z6 t6 ⟨rfl, hp6_0, hp6_1, hp6_2⟩
      have hv2 : z6 = hvA t 69 w.toNat := by
        rw [hp6_0]
        unfold hvA
        congr 2 <;> omega
      refine w_mul ?_
      refine w_cle (by omega) (fun h7 => ?_) (fun h7 => ?_)
      · skip
        refine w_step rfl ?_
        refine w_iload rfl ?_
        refine w_istore (lv' := [some (.ref 68), some (.int (jI p)), some (.int (jI n)), some (.int (jI z2)), some (.int (jI i)), some (.int (jI z2))]) rfl ?_
        refine w_iinc (lv' := [some (.ref 68), some (.int (jI p)), some (.int (jI (n + 1))), some (.int (jI z2)), some (.int (jI i)), some (.int (jI z2))]) kc_1 rfl rfl ?_
        refine w_iinc (lv' := [some (.ref 68), some (.int (jI p)), some (.int (jI (n + 1))), some (.int (jI z2)), some (.int (jI (i + 1))), some (.int (jI z2))]) kc_1 rfl rfl ?_
        refine w_goto ?_
        exact ih1 _ (n + 1) z2 (i + 1) (some z2)  (by omega) (by omega) (by omega) (by omega) (by omega) (by omega) (by omega) (by rw [← i1_7, falls_s (by omega) hq (by omega) (by first | (rw [if_pos (by omega)]; omega) | (rw [if_neg (by omega), ← hv1, ← hv2]; omega)), if_neg (by omega)]) (by omega) (by omega)
      refine w_goto ?_
      refine w_step rfl ?_
      refine w_iload rfl ?_
      refine w_retI rfl ?_
      exact ⟨rfl, (by omega), (by omega), (by rw [← i1_7]; first | exact (faS_e (by omega)).symm | exact (faS_0 (by omega) (Or.inl (by omega)) rfl).symm | exact (faS_0 (by omega) (Or.inr ⟨by omega, by omega, by rw [if_neg (by omega), ← hq, ← hv1, ← hv2]; omega⟩) rfl).symm)⟩
  exact key1 13 _ 0 (-1) p none  (by omega) (by omega) (by omega) (by omega) (by omega) (by omega) (by omega) (by unfold flF; rw [if_pos rfl, show (12 - p).toNat = 12 - p.toNat by omega]) (by omega) (by omega)
set_option maxRecDepth 100000 in
set_option maxHeartbeats 4000000 in
theorem e_X9_isLaid {d : Nat} {t : TS}  (ok : OK t) : CI (EX FU (d + 3)) 179 [.ref 68] (mk t) (fun z t' => t = t' ∧ (0 ≤ z) ∧ (z ≤ 1) ∧ ((z = 1 ∧ (caF (AA t 69) (tA t 69 1).toNat = 12 ∨ caF (AA t 69) (tA t 69 1).toNat = tA t 69 1)) ∨ (z = 0 ∧ ¬ (caF (AA t 69) (tA t 69 1).toNat = 12 ∨ caF (AA t 69) (tA t 69 1).toNat = tA t 69 1)))) := by
  refine CI_ent (d := d + 2) (Bk := bX9_isLaid) (nL := 2) rfl rfl rfl (Nat.le_of_ble_eq_true rfl) ?_
  show Rn _ 1000000 0 [some (.ref 68), none] [] _ _
  have hn0 := (ok.a (ax_69 nr_1)).1
  have hn1 := (ok.a (ax_69 nr_1)).2
  refine w_step rfl ?_
  refine w_aload rfl ?_
  refine w_callV0I (oj_68 _).choose_spec rfl (e_X9_manyLaid ok) ?_
  rintro z1 t1 ⟨rfl, hp1_0, hp1_1, hp1_2⟩
  have hm := hp1_2
  refine w_istore (lv' := [some (.ref 68), some (.int (jI z1))]) rfl ?_
  refine w_iload rfl ?_
  refine w_push kc_12 ?_
  refine w_ceq (by omega) (fun h2 => ?_) (fun h2 => ?_)
  · skip
    refine w_step rfl ?_
    refine w_push kc_1 ?_
    refine w_goto ?_
    refine w_step rfl ?_
    refine w_retI rfl ?_
    exact ⟨rfl, (by omega), (by omega), (by omega)⟩
  refine w_iload rfl ?_
  refine w_aload rfl ?_
  refine w_getR (g_68_0 _) ?_
  refine w_push kc_1 ?_
  refine w_iald (i := 1) (ai_69 _) (by omega) (by omega) (ax_69 nr_1) ok (fun z3 hz3 hl3 hh3 => ?_)
  refine w_cne (by omega) (fun h4 => ?_) (fun h4 => ?_)
  · skip
    refine w_step rfl ?_
    refine w_push kc_0 ?_
    refine w_goto ?_
    refine w_step rfl ?_
    refine w_retI rfl ?_
    exact ⟨rfl, (by omega), (by omega), (by omega)⟩
  refine w_goto ?_
  refine w_step rfl ?_
  refine w_push kc_1 ?_
  refine w_goto ?_
  refine w_step rfl ?_
  refine w_retI rfl ?_
  exact ⟨rfl, (by omega), (by omega), (by omega)⟩
