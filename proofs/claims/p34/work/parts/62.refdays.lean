set_option maxRecDepth 100000 in
set_option maxHeartbeats 4000000 in
theorem c_X9_manyLaid {d : Nat} {t : TS}  (ok : OK t) : CI (EX FU (d + 2)) 157 [.ref 68] (mk t) (fun z t' => t = t' ∧ (0 ≤ z) ∧ (z ≤ 12)) := by
  refine CI_ent (d := d + 1) (Bk := bX9_manyLaid) (nL := 3) rfl rfl rfl (Nat.le_of_ble_eq_true rfl) ?_
  show Rn _ 1000000 0 [some (.ref 68), none, none] [] _ _
  have hn0 := (ok.a (ax_69 nr_1)).1
  have hn1 := (ok.a (ax_69 nr_1)).2
  refine w_step rfl ?_
  refine w_push kc_0 ?_
  refine w_istore (lv' := [some (.ref 68), some (.int (jI 0)), none]) rfl ?_
  refine w_push kc_0 ?_
  refine w_istore (lv' := [some (.ref 68), some (.int (jI 0)), some (.int (jI 0))]) rfl ?_
  refine w_goto ?_
  have key1 : ∀ (n1 M1 : Nat) (n : Int) (s : Int), (0 ≤ s) → (s ≤ 12) → (0 ≤ n) → (n ≤ s) → 12 - s < (n1 : Int) → 60 * n1 + (1000) ≤ M1 → Rn (bX9_manyLaid (EX FU (d + 1))) M1 1 [some (.ref 68), some (.int (jI n)), some (.int (jI s))] [] (mk t) (PI (fun z t' => t = t' ∧ (0 ≤ z) ∧ (z ≤ 12))) := by
    intro n1
    induction n1 with
    | zero => intro M1 n s i1_0 i1_1 i1_2 i1_3 v1 f1; exfalso; omega
    | succ n1 ih1 =>
      intro M1 n s i1_0 i1_1 i1_2 i1_3 v1 f1
      obtain ⟨M1, rfl⟩ : ∃ m, M1 = m + 60 := ⟨M1 - 60, by omega⟩
      refine w_step rfl ?_
      refine w_iload rfl ?_
      refine w_aload rfl ?_
      refine w_getR (g_68_0 _) ?_
      refine w_push kc_1 ?_
      refine w_iald (i := 1) (ai_69 _) (by omega) (by omega) (ax_69 nr_1) ok (fun z1 hz1 hl1 hh1 => ?_)
      refine w_cge (by omega) (fun h2 => ?_) (fun h2 => ?_)
      · skip
        refine w_step rfl ?_
        refine w_iload rfl ?_
        refine w_retI rfl ?_
        exact ⟨rfl, (by omega), (by omega)⟩
      refine w_iload rfl ?_
      refine w_aload rfl ?_
      refine w_iload rfl ?_
      refine w_push kc_3 ?_
      refine w_callV2I (oj_68 _).choose_spec rfl (c_X9_of ok (by omega) (by omega) (by omega) (by omega)) ?_
      rintro z3 t3 ⟨rfl, hp3_0, hp3_1, hp3_2⟩
      have hr3 := of_r3 (s := s) ok (by omega)
      refine w_push kc_12 ?_
      refine w_cne (by omega) (fun h4 => ?_) (fun h4 => ?_)
      · skip
        refine w_step rfl ?_
        refine w_push kc_1 ?_
        refine w_goto ?_
        refine w_step rfl ?_
        refine w_add ?_
        refine w_istore (lv' := [some (.ref 68), some (.int (jI (n + 1))), some (.int (jI s))]) rfl ?_
        refine w_iinc (lv' := [some (.ref 68), some (.int (jI (n + 1))), some (.int (jI (s + 1)))]) kc_1 rfl rfl ?_
        refine w_goto ?_
        exact ih1 _ (n + 1) (s + 1)  (by omega) (by omega) (by omega) (by omega) (by omega) (by omega)
      refine w_push kc_0 ?_
      refine w_goto ?_
      refine w_step rfl ?_
      refine w_add ?_
      refine w_istore (lv' := [some (.ref 68), some (.int (jI (n + 0))), some (.int (jI s))]) rfl ?_
      refine w_iinc (lv' := [some (.ref 68), some (.int (jI (n + 0))), some (.int (jI (s + 1)))]) kc_1 rfl rfl ?_
      refine w_goto ?_
      exact ih1 _ (n + 0) (s + 1)  (by omega) (by omega) (by omega) (by omega) (by omega) (by omega)
  exact key1 13 _ 0 0  (by omega) (by omega) (by omega) (by omega) (by omega) (by omega)
set_option maxRecDepth 100000 in
set_option maxHeartbeats 4000000 in
theorem c_X9_laysIn {d : Nat} {t : TS} {r : Int}  (ok : OK t) (q0 : WF t 69) (q1 : 0 ≤ r) (q2 : r ≤ 3) : CV (EX FU (d + 5)) 158 [.ref 68, .int (jI r)] (mk t) (fun t' => OK t' ∧ Fr [(69, 100), (81, 100), (82, 100)] t t' ∧ (Dq t t') ∧ (tA t' 69 0 = tA t 69 0) ∧ (tA t' 69 2 = tA t 69 2) ∧ (tA t' 69 3 = tA t 69 3)) := by
  refine CV_ent (d := d + 4) (Bk := bX9_laysIn) (nL := 9) rfl rfl rfl (Nat.le_of_ble_eq_true rfl) ?_
  show Rn _ 1000000 0 [some (.ref 68), some (.int (jI r)), none, none, none, none, none, none, none] [] _ _
  have fr : Fr [(69, 100), (81, 100), (82, 100)] t t := Fr.rf _ _
  have hn0 := (ok.a (ax_69 nr_1)).1
  have hn1 := (ok.a (ax_69 nr_1)).2
  have dq : Dq t t := Dq.rf t
  refine w_step rfl ?_
  refine w_push kc_3 ?_
  refine w_iload rfl ?_
  refine w_mul ?_
  refine w_istore (lv' := [some (.ref 68), some (.int (jI r)), some (.int (jI (3 * r))), none, none, none, none, none, none]) rfl ?_
  refine w_goto ?_
  have key1 : ∀ (n1 M1 : Nat) (p : Int), (3 * r ≤ p) → (p ≤ 3 * r + 3) → 12 - p < (n1 : Int) → 60 * n1 + (50000) ≤ M1 → Rn (bX9_laysIn (EX FU (d + 4))) M1 1 [some (.ref 68), some (.int (jI r)), some (.int (jI p)), none, none, none, none, none, none] [] (mk t) (PV (fun t' => OK t' ∧ Fr [(69, 100), (81, 100), (82, 100)] t t' ∧ (Dq t t') ∧ (tA t' 69 0 = tA t 69 0) ∧ (tA t' 69 2 = tA t 69 2) ∧ (tA t' 69 3 = tA t 69 3))) := by
    intro n1
    induction n1 with
    | zero => intro M1 p i1_0 i1_1 v1 f1; exfalso; omega
    | succ n1 ih1 =>
      intro M1 p i1_0 i1_1 v1 f1
      obtain ⟨M1, rfl⟩ : ∃ m, M1 = m + 60 := ⟨M1 - 60, by omega⟩
      refine w_step rfl ?_
      refine w_iload rfl ?_
      refine w_push kc_3 ?_
      refine w_iload rfl ?_
      refine w_mul ?_
      refine w_push kc_3 ?_
      refine w_add ?_
      refine w_cge (by omega) (fun h1 => ?_) (fun h1 => ?_)
      · skip
        refine w_step rfl ?_
        refine w_push kc_m1 ?_
        refine w_istore (lv' := [some (.ref 68), some (.int (jI r)), some (.int (jI p)), some (.int (jI (-1))), none, none, none, none, none]) rfl ?_
        refine w_push kc_0 ?_
        refine w_istore (lv' := [some (.ref 68), some (.int (jI r)), some (.int (jI p)), some (.int (jI (-1))), some (.int (jI 0)), none, none, none, none]) rfl ?_
        refine w_push kc_0 ?_
        refine w_istore (lv' := [some (.ref 68), some (.int (jI r)), some (.int (jI p)), some (.int (jI (-1))), some (.int (jI 0)), some (.int (jI 0)), none, none, none]) rfl ?_
        refine w_push kc_0 ?_
        refine w_istore (lv' := [some (.ref 68), some (.int (jI r)), some (.int (jI p)), some (.int (jI (-1))), some (.int (jI 0)), some (.int (jI 0)), some (.int (jI 0)), none, none]) rfl ?_
        refine w_goto ?_
        have key3 : ∀ (n3 M3 : Nat) (best : Int) (least : Int) (way : Int) (k : Int) (o7 : Option Int) (o8 : Option Int) (t2 : TS), OK t2 → Fr [(69, 100), (81, 100), (82, 100)] t t2 → WF t2 69 → Dq t t2 → (-1 ≤ best) → (best ≤ 11) → (0 ≤ least) → (least ≤ 198) → (0 ≤ way) → (way ≤ 1) → (0 ≤ k) → (k ≤ 24) → (best < 0 ∨ p < 3 * r + 3) → (∀ i, tA t2 69 i = tA t 69 i) → 24 - k < (n3 : Int) → 60 * n3 + (1000) ≤ M3 → Rn (bX9_laysIn (EX FU (d + 4))) M3 3 [some (.ref 68), some (.int (jI r)), some (.int (jI p)), some (.int (jI best)), some (.int (jI least)), some (.int (jI way)), some (.int (jI k)), dv o7, dv o8] [] (mk t2) (PV (fun t' => OK t' ∧ Fr [(69, 100), (81, 100), (82, 100)] t t' ∧ (Dq t t') ∧ (tA t' 69 0 = tA t 69 0) ∧ (tA t' 69 2 = tA t 69 2) ∧ (tA t' 69 3 = tA t 69 3))) := by
          intro n3
          induction n3 with
          | zero => intro M3 best least way k o7 o8 t2 ok2 fr2 wf2 dq2 i3_0 i3_1 i3_2 i3_3 i3_4 i3_5 i3_6 i3_7 i3_8 i3_9 v3 f3; exfalso; omega
          | succ n3 ih3 =>
            intro M3 best least way k o7 o8 t2 ok2 fr2 wf2 dq2 i3_0 i3_1 i3_2 i3_3 i3_4 i3_5 i3_6 i3_7 i3_8 i3_9 v3 f3
            obtain ⟨M3, rfl⟩ : ∃ m, M3 = m + 60 := ⟨M3 - 60, by omega⟩
            refine w_step rfl ?_
            refine w_iload rfl ?_
            refine w_push kc_2 ?_
            refine w_aload rfl ?_
            refine w_getR (g_68_0 _) ?_
            refine w_push kc_1 ?_
            refine w_iald (i := 1) (ai_69 _) (by omega) (by omega) (ax_69 nr_1) ok2 (fun z3 hz3 hl3 hh3 => ?_)
            refine w_mul ?_
            refine w_cge (by omega) (fun h4 => ?_) (fun h4 => ?_)
            · skip
              refine w_step rfl ?_
              refine w_iload rfl ?_
              refine w_ilt (by omega) (fun h5 => ?_) (fun h5 => ?_)
              · skip
                refine w_step rfl ?_
                refine w_retV ?_
                exact ⟨ok2, fr2, dq2, (by first | (rw [w2, tA_uA, if_neg (by omega), w1, tA_uA, if_neg (by omega)]; exact i3_9 _) | exact i3_9 _), (by first | (rw [w2, tA_uA, if_neg (by omega), w1, tA_uA, if_neg (by omega)]; exact i3_9 _) | exact i3_9 _), (by first | (rw [w2, tA_uA, if_neg (by omega), w1, tA_uA, if_neg (by omega)]; exact i3_9 _) | exact i3_9 _)⟩
              refine w_aload rfl ?_
              refine w_getR (g_68_0 _) ?_
              refine w_push kc_29 ?_
              refine w_push kc_5 ?_
              refine w_iload rfl ?_
              refine w_mul ?_
              refine w_add ?_
              refine w_push kc_3 ?_
              refine w_add ?_
              refine w_iload rfl ?_
              refine w_iast (i := (((29 + (5 * best)) + 3)).toNat) (ai_69 _) rfl (by omega) (by omega) (ax_69 (nr_S3 (s := best.toNat) (by omega))) ok2 (by omega) (fun t6 ht6 ok6 => ?_)
              have fr6 := fr2.uA ht6 (by simp)
              have wf6 := wf2.u69 ht6 (by omega)
              have dq6 := dq2.u69 ht6 (by omega)
              have w1 := ht6
              refine w_aload rfl ?_
              refine w_getR (g_68_0 _) ?_
              refine w_push kc_29 ?_
              refine w_push kc_5 ?_
              refine w_iload rfl ?_
              refine w_mul ?_
              refine w_add ?_
              refine w_push kc_4 ?_
              refine w_add ?_
              refine w_iload rfl ?_
              refine w_iast (i := (((29 + (5 * best)) + 4)).toNat) (ai_69 _) rfl (by omega) (by omega) (ax_69 (nr_S4 (s := best.toNat) (by omega))) ok6 (by omega) (fun t7 ht7 ok7 => ?_)
              have fr7 := fr6.uA ht7 (by simp)
              have wf7 := wf6.u69 ht7 (by omega)
              have dq7 := dq6.u69 ht7 (by omega)
              have w2 := ht7
              refine w_goto ?_
              refine w_step rfl ?_
              refine w_retV ?_
              exact ⟨ok7, fr7, dq7, (by first | (rw [w2, tA_uA, if_neg (by omega), w1, tA_uA, if_neg (by omega)]; exact i3_9 _) | exact i3_9 _), (by first | (rw [w2, tA_uA, if_neg (by omega), w1, tA_uA, if_neg (by omega)]; exact i3_9 _) | exact i3_9 _), (by first | (rw [w2, tA_uA, if_neg (by omega), w1, tA_uA, if_neg (by omega)]; exact i3_9 _) | exact i3_9 _)⟩
            refine w_iload rfl ?_
            refine w_push kc_3 ?_
            refine w_iload rfl ?_
            refine w_mul ?_
            refine w_push kc_3 ?_
            refine w_add ?_
            refine w_cge (by omega) (fun h8 => ?_) (fun h8 => ?_)
            · skip
              refine w_step rfl ?_
              refine w_iload rfl ?_
              refine w_ilt (by omega) (fun h9 => ?_) (fun h9 => ?_)
              · skip
                refine w_step rfl ?_
                refine w_retV ?_
                exact ⟨ok2, fr2, dq2, (by first | (rw [w2, tA_uA, if_neg (by omega), w1, tA_uA, if_neg (by omega)]; exact i3_9 _) | exact i3_9 _), (by first | (rw [w2, tA_uA, if_neg (by omega), w1, tA_uA, if_neg (by omega)]; exact i3_9 _) | exact i3_9 _), (by first | (rw [w2, tA_uA, if_neg (by omega), w1, tA_uA, if_neg (by omega)]; exact i3_9 _) | exact i3_9 _)⟩
              refine w_aload rfl ?_
              refine w_getR (g_68_0 _) ?_
              refine w_push kc_29 ?_
              refine w_push kc_5 ?_
              refine w_iload rfl ?_
              refine w_mul ?_
              refine w_add ?_
              refine w_push kc_3 ?_
              refine w_add ?_
              refine w_iload rfl ?_
              refine w_iast (i := (((29 + (5 * best)) + 3)).toNat) (ai_69 _) rfl (by omega) (by omega) (ax_69 (nr_S3 (s := best.toNat) (by omega))) ok2 (by omega) (fun t10 ht10 ok10 => ?_)
              have fr10 := fr2.uA ht10 (by simp)
              have wf10 := wf2.u69 ht10 (by omega)
              have dq10 := dq2.u69 ht10 (by omega)
              have w1 := ht10
              refine w_aload rfl ?_
              refine w_getR (g_68_0 _) ?_
              refine w_push kc_29 ?_
              refine w_push kc_5 ?_
              refine w_iload rfl ?_
              refine w_mul ?_
              refine w_add ?_
              refine w_push kc_4 ?_
              refine w_add ?_
              refine w_iload rfl ?_
              refine w_iast (i := (((29 + (5 * best)) + 4)).toNat) (ai_69 _) rfl (by omega) (by omega) (ax_69 (nr_S4 (s := best.toNat) (by omega))) ok10 (by omega) (fun t11 ht11 ok11 => ?_)
              have fr11 := fr10.uA ht11 (by simp)
              have wf11 := wf10.u69 ht11 (by omega)
              have dq11 := dq10.u69 ht11 (by omega)
              have w2 := ht11
              refine w_goto ?_
              refine w_step rfl ?_
              refine w_retV ?_
              exact ⟨ok11, fr11, dq11, (by first | (rw [w2, tA_uA, if_neg (by omega), w1, tA_uA, if_neg (by omega)]; exact i3_9 _) | exact i3_9 _), (by first | (rw [w2, tA_uA, if_neg (by omega), w1, tA_uA, if_neg (by omega)]; exact i3_9 _) | exact i3_9 _), (by first | (rw [w2, tA_uA, if_neg (by omega), w1, tA_uA, if_neg (by omega)]; exact i3_9 _) | exact i3_9 _)⟩
            refine w_iload rfl ?_
            refine w_push kc_2 ?_
            refine w_div (by omega) ?_
            refine w_istore (lv' := [some (.ref 68), some (.int (jI r)), some (.int (jI p)), some (.int (jI best)), some (.int (jI least)), some (.int (jI way)), some (.int (jI k)), some (.int (jI (k / 2))), dv o8]) rfl ?_
            refine w_aload rfl ?_
            refine w_iload rfl ?_
            refine w_push kc_3 ?_
            refine w_callV2I (oj_68 _).choose_spec rfl (c_X9_of ok2 (by omega) (by omega) (by omega) (by omega)) ?_
            rintro z12 t12 ⟨rfl, hp12_0, hp12_1, hp12_2⟩
            have hr12 := of_r3 (s := (k / 2)) ok2 (by omega)
            refine w_push kc_12 ?_
            refine w_cne (by omega) (fun h13 => ?_) (fun h13 => ?_)
            · skip
              refine w_step rfl ?_
              refine w_push kc_m1 ?_
              refine w_goto ?_
              refine w_step rfl ?_
              refine w_istore (lv' := [some (.ref 68), some (.int (jI r)), some (.int (jI p)), some (.int (jI best)), some (.int (jI least)), some (.int (jI way)), some (.int (jI k)), some (.int (jI (k / 2))), some (.int (jI (-1)))]) rfl ?_
              refine w_iload rfl ?_
              refine w_ilt (by omega) (fun _ => ?_) (fun h => absurd (by omega) h)
              refine w_step rfl ?_
              refine w_iinc (lv' := [some (.ref 68), some (.int (jI r)), some (.int (jI p)), some (.int (jI best)), some (.int (jI least)), some (.int (jI way)), some (.int (jI (k + 1))), some (.int (jI (k / 2))), some (.int (jI (-1)))]) kc_1 rfl rfl ?_
              refine w_goto ?_
              exact ih3 _ best least way (k + 1) (some (k / 2)) (some (-1)) t2 ok2 fr2 wf2 dq2 (by omega) (by omega) (by omega) (by omega) (by omega) (by omega) (by omega) (by omega) (by omega) (by first | exact eA | exact i3_9) (by omega) (by omega)
            refine w_iload rfl ?_
            refine w_aload rfl ?_
            refine w_getI (g_68_4 _) fe_68_4 ok2 (fun z14 hz14 hl14 hh14 => ?_)
            refine w_ceq (by omega) (fun h15 => ?_) (fun h15 => ?_)
            · skip
              refine w_step rfl ?_
              refine w_push kc_m1 ?_
              refine w_goto ?_
              refine w_step rfl ?_
              refine w_istore (lv' := [some (.ref 68), some (.int (jI r)), some (.int (jI p)), some (.int (jI best)), some (.int (jI least)), some (.int (jI way)), some (.int (jI k)), some (.int (jI (k / 2))), some (.int (jI (-1)))]) rfl ?_
              refine w_iload rfl ?_
              refine w_ilt (by omega) (fun _ => ?_) (fun h => absurd (by omega) h)
              refine w_step rfl ?_
              refine w_iinc (lv' := [some (.ref 68), some (.int (jI r)), some (.int (jI p)), some (.int (jI best)), some (.int (jI least)), some (.int (jI way)), some (.int (jI (k + 1))), some (.int (jI (k / 2))), some (.int (jI (-1)))]) kc_1 rfl rfl ?_
              refine w_goto ?_
              exact ih3 _ best least way (k + 1) (some (k / 2)) (some (-1)) t2 ok2 fr2 wf2 dq2 (by omega) (by omega) (by omega) (by omega) (by omega) (by omega) (by omega) (by omega) (by omega) (by first | exact eA | exact i3_9) (by omega) (by omega)
            refine w_aload rfl ?_
            refine w_iload rfl ?_
            refine w_iload rfl ?_
            refine w_iload rfl ?_
            refine w_push kc_2 ?_
            refine w_rem (by omega) ?_
            refine w_callV3I (oj_68 _).choose_spec rfl (c_X9_offOf ok2 wf2 (by omega) (by omega) (by omega) (by omega) (by omega) (by omega)) ?_
            rintro z16 t16 ⟨ok16, fq16, hp16_0, hp16_1⟩
            have fr16 := fr2.then fq16 (by simp)
            have wf16 := wf2.fr fq16 (by simp)
            have dq16 := dq2.fr fq16 (by simp)
            have eA : ∀ i, tA t16 69 i = tA t 69 i := fun i => (fq16.2.1 69 (by simp) i).trans (i3_9 i)
            refine w_goto ?_
            refine w_step rfl ?_
            refine w_istore (lv' := [some (.ref 68), some (.int (jI r)), some (.int (jI p)), some (.int (jI best)), some (.int (jI least)), some (.int (jI way)), some (.int (jI k)), some (.int (jI (k / 2))), some (.int (jI z16))]) rfl ?_
            refine w_iload rfl ?_
            refine w_ilt (by omega) (fun h17 => ?_) (fun h17 => ?_)
            · skip
              refine w_step rfl ?_
              refine w_iinc (lv' := [some (.ref 68), some (.int (jI r)), some (.int (jI p)), some (.int (jI best)), some (.int (jI least)), some (.int (jI way)), some (.int (jI (k + 1))), some (.int (jI (k / 2))), some (.int (jI z16))]) kc_1 rfl rfl ?_
              refine w_goto ?_
              exact ih3 _ best least way (k + 1) (some (k / 2)) (some z16) t16 ok16 fr16 wf16 dq16 (by omega) (by omega) (by omega) (by omega) (by omega) (by omega) (by omega) (by omega) (by omega) (by first | exact eA | exact i3_9) (by omega) (by omega)
            refine w_iload rfl ?_
            refine w_ilt (by omega) (fun h18 => ?_) (fun h18 => ?_)
            · skip
              refine w_step rfl ?_
              refine w_iload rfl ?_
              refine w_istore (lv' := [some (.ref 68), some (.int (jI r)), some (.int (jI p)), some (.int (jI (k / 2))), some (.int (jI least)), some (.int (jI way)), some (.int (jI k)), some (.int (jI (k / 2))), some (.int (jI z16))]) rfl ?_
              refine w_iload rfl ?_
              refine w_istore (lv' := [some (.ref 68), some (.int (jI r)), some (.int (jI p)), some (.int (jI (k / 2))), some (.int (jI z16)), some (.int (jI way)), some (.int (jI k)), some (.int (jI (k / 2))), some (.int (jI z16))]) rfl ?_
              refine w_iload rfl ?_
              refine w_push kc_2 ?_
              refine w_rem (by omega) ?_
              refine w_istore (lv' := [some (.ref 68), some (.int (jI r)), some (.int (jI p)), some (.int (jI (k / 2))), some (.int (jI z16)), some (.int (jI (k % 2))), some (.int (jI k)), some (.int (jI (k / 2))), some (.int (jI z16))]) rfl ?_
              refine w_goto ?_
              refine w_step rfl ?_
              refine w_iinc (lv' := [some (.ref 68), some (.int (jI r)), some (.int (jI p)), some (.int (jI (k / 2))), some (.int (jI z16)), some (.int (jI (k % 2))), some (.int (jI (k + 1))), some (.int (jI (k / 2))), some (.int (jI z16))]) kc_1 rfl rfl ?_
              refine w_goto ?_
              exact ih3 _ (k / 2) z16 (k % 2) (k + 1) (some (k / 2)) (some z16) t16 ok16 fr16 wf16 dq16 (by omega) (by omega) (by omega) (by omega) (by omega) (by omega) (by omega) (by omega) (by omega) (by first | exact eA | exact i3_9) (by omega) (by omega)
            refine w_iload rfl ?_
            refine w_iload rfl ?_
            refine w_cge (by omega) (fun h19 => ?_) (fun h19 => ?_)
            · skip
              refine w_step rfl ?_
              refine w_iinc (lv' := [some (.ref 68), some (.int (jI r)), some (.int (jI p)), some (.int (jI best)), some (.int (jI least)), some (.int (jI way)), some (.int (jI (k + 1))), some (.int (jI (k / 2))), some (.int (jI z16))]) kc_1 rfl rfl ?_
              refine w_goto ?_
              exact ih3 _ best least way (k + 1) (some (k / 2)) (some z16) t16 ok16 fr16 wf16 dq16 (by omega) (by omega) (by omega) (by omega) (by omega) (by omega) (by omega) (by omega) (by omega) (by first | exact eA | exact i3_9) (by omega) (by omega)
            refine w_goto ?_
            refine w_step rfl ?_
            refine w_iload rfl ?_
            refine w_istore (lv' := [some (.ref 68), some (.int (jI r)), some (.int (jI p)), some (.int (jI (k / 2))), some (.int (jI least)), some (.int (jI way)), some (.int (jI k)), some (.int (jI (k / 2))), some (.int (jI z16))]) rfl ?_
            refine w_iload rfl ?_
            refine w_istore (lv' := [some (.ref 68), some (.int (jI r)), some (.int (jI p)), some (.int (jI (k / 2))), some (.int (jI z16)), some (.int (jI way)), some (.int (jI k)), some (.int (jI (k / 2))), some (.int (jI z16))]) rfl ?_
            refine w_iload rfl ?_
            refine w_push kc_2 ?_
            refine w_rem (by omega) ?_
            refine w_istore (lv' := [some (.ref 68), some (.int (jI r)), some (.int (jI p)), some (.int (jI (k / 2))), some (.int (jI z16)), some (.int (jI (k % 2))), some (.int (jI k)), some (.int (jI (k / 2))), some (.int (jI z16))]) rfl ?_
            refine w_goto ?_
            refine w_step rfl ?_
            refine w_iinc (lv' := [some (.ref 68), some (.int (jI r)), some (.int (jI p)), some (.int (jI (k / 2))), some (.int (jI z16)), some (.int (jI (k % 2))), some (.int (jI (k + 1))), some (.int (jI (k / 2))), some (.int (jI z16))]) kc_1 rfl rfl ?_
            refine w_goto ?_
            exact ih3 _ (k / 2) z16 (k % 2) (k + 1) (some (k / 2)) (some z16) t16 ok16 fr16 wf16 dq16 (by omega) (by omega) (by omega) (by omega) (by omega) (by omega) (by omega) (by omega) (by omega) (by first | exact eA | exact i3_9) (by omega) (by omega)
        exact key3 25 _ (-1) 0 0 0 none none t ok fr q0 dq (by omega) (by omega) (by omega) (by omega) (by omega) (by omega) (by omega) (by omega) (by omega) (fun _ => rfl) (by omega) (by omega)
      refine w_aload rfl ?_
      refine w_iload rfl ?_
      refine w_callV1I (oj_68 _).choose_spec rfl (c_X9_holder ok (by omega) (by omega)) ?_
      rintro z20 t20 ⟨rfl, hp20_0, hp20_1⟩
      refine w_ilt (by omega) (fun h21 => ?_) (fun h21 => ?_)
      · skip
        refine w_step rfl ?_
        refine w_push kc_m1 ?_
        refine w_istore (lv' := [some (.ref 68), some (.int (jI r)), some (.int (jI p)), some (.int (jI (-1))), none, none, none, none, none]) rfl ?_
        refine w_push kc_0 ?_
        refine w_istore (lv' := [some (.ref 68), some (.int (jI r)), some (.int (jI p)), some (.int (jI (-1))), some (.int (jI 0)), none, none, none, none]) rfl ?_
        refine w_push kc_0 ?_
        refine w_istore (lv' := [some (.ref 68), some (.int (jI r)), some (.int (jI p)), some (.int (jI (-1))), some (.int (jI 0)), some (.int (jI 0)), none, none, none]) rfl ?_
        refine w_push kc_0 ?_
        refine w_istore (lv' := [some (.ref 68), some (.int (jI r)), some (.int (jI p)), some (.int (jI (-1))), some (.int (jI 0)), some (.int (jI 0)), some (.int (jI 0)), none, none]) rfl ?_
        refine w_goto ?_
        have key3 : ∀ (n3 M3 : Nat) (best : Int) (least : Int) (way : Int) (k : Int) (o7 : Option Int) (o8 : Option Int) (t22 : TS), OK t22 → Fr [(69, 100), (81, 100), (82, 100)] t t22 → WF t22 69 → Dq t t22 → (-1 ≤ best) → (best ≤ 11) → (0 ≤ least) → (least ≤ 198) → (0 ≤ way) → (way ≤ 1) → (0 ≤ k) → (k ≤ 24) → (best < 0 ∨ p < 3 * r + 3) → (∀ i, tA t22 69 i = tA t 69 i) → 24 - k < (n3 : Int) → 60 * n3 + (1000) ≤ M3 → Rn (bX9_laysIn (EX FU (d + 4))) M3 3 [some (.ref 68), some (.int (jI r)), some (.int (jI p)), some (.int (jI best)), some (.int (jI least)), some (.int (jI way)), some (.int (jI k)), dv o7, dv o8] [] (mk t22) (PV (fun t' => OK t' ∧ Fr [(69, 100), (81, 100), (82, 100)] t t' ∧ (Dq t t') ∧ (tA t' 69 0 = tA t 69 0) ∧ (tA t' 69 2 = tA t 69 2) ∧ (tA t' 69 3 = tA t 69 3))) := by
          intro n3
          induction n3 with
          | zero => intro M3 best least way k o7 o8 t22 ok22 fr22 wf22 dq22 i3_0 i3_1 i3_2 i3_3 i3_4 i3_5 i3_6 i3_7 i3_8 i3_9 v3 f3; exfalso; omega
          | succ n3 ih3 =>
            intro M3 best least way k o7 o8 t22 ok22 fr22 wf22 dq22 i3_0 i3_1 i3_2 i3_3 i3_4 i3_5 i3_6 i3_7 i3_8 i3_9 v3 f3
            obtain ⟨M3, rfl⟩ : ∃ m, M3 = m + 60 := ⟨M3 - 60, by omega⟩
            refine w_step rfl ?_
            refine w_iload rfl ?_
            refine w_push kc_2 ?_
            refine w_aload rfl ?_
            refine w_getR (g_68_0 _) ?_
            refine w_push kc_1 ?_
            refine w_iald (i := 1) (ai_69 _) (by omega) (by omega) (ax_69 nr_1) ok22 (fun z23 hz23 hl23 hh23 => ?_)
            refine w_mul ?_
            refine w_cge (by omega) (fun h24 => ?_) (fun h24 => ?_)
            · skip
              refine w_step rfl ?_
              refine w_iload rfl ?_
              refine w_ilt (by omega) (fun h25 => ?_) (fun h25 => ?_)
              · skip
                refine w_step rfl ?_
                refine w_retV ?_
                exact ⟨ok22, fr22, dq22, (by first | (rw [w2, tA_uA, if_neg (by omega), w1, tA_uA, if_neg (by omega)]; exact i3_9 _) | exact i3_9 _), (by first | (rw [w2, tA_uA, if_neg (by omega), w1, tA_uA, if_neg (by omega)]; exact i3_9 _) | exact i3_9 _), (by first | (rw [w2, tA_uA, if_neg (by omega), w1, tA_uA, if_neg (by omega)]; exact i3_9 _) | exact i3_9 _)⟩
              refine w_aload rfl ?_
              refine w_getR (g_68_0 _) ?_
              refine w_push kc_29 ?_
              refine w_push kc_5 ?_
              refine w_iload rfl ?_
              refine w_mul ?_
              refine w_add ?_
              refine w_push kc_3 ?_
              refine w_add ?_
              refine w_iload rfl ?_
              refine w_iast (i := (((29 + (5 * best)) + 3)).toNat) (ai_69 _) rfl (by omega) (by omega) (ax_69 (nr_S3 (s := best.toNat) (by omega))) ok22 (by omega) (fun t26 ht26 ok26 => ?_)
              have fr26 := fr22.uA ht26 (by simp)
              have wf26 := wf22.u69 ht26 (by omega)
              have dq26 := dq22.u69 ht26 (by omega)
              have w1 := ht26
              refine w_aload rfl ?_
              refine w_getR (g_68_0 _) ?_
              refine w_push kc_29 ?_
              refine w_push kc_5 ?_
              refine w_iload rfl ?_
              refine w_mul ?_
              refine w_add ?_
              refine w_push kc_4 ?_
              refine w_add ?_
              refine w_iload rfl ?_
              refine w_iast (i := (((29 + (5 * best)) + 4)).toNat) (ai_69 _) rfl (by omega) (by omega) (ax_69 (nr_S4 (s := best.toNat) (by omega))) ok26 (by omega) (fun t27 ht27 ok27 => ?_)
              have fr27 := fr26.uA ht27 (by simp)
              have wf27 := wf26.u69 ht27 (by omega)
              have dq27 := dq26.u69 ht27 (by omega)
              have w2 := ht27
              refine w_goto ?_
              refine w_step rfl ?_
              refine w_retV ?_
              exact ⟨ok27, fr27, dq27, (by first | (rw [w2, tA_uA, if_neg (by omega), w1, tA_uA, if_neg (by omega)]; exact i3_9 _) | exact i3_9 _), (by first | (rw [w2, tA_uA, if_neg (by omega), w1, tA_uA, if_neg (by omega)]; exact i3_9 _) | exact i3_9 _), (by first | (rw [w2, tA_uA, if_neg (by omega), w1, tA_uA, if_neg (by omega)]; exact i3_9 _) | exact i3_9 _)⟩
            refine w_iload rfl ?_
            refine w_push kc_3 ?_
            refine w_iload rfl ?_
            refine w_mul ?_
            refine w_push kc_3 ?_
            refine w_add ?_
            refine w_cge (by omega) (fun h28 => ?_) (fun h28 => ?_)
            · skip
              refine w_step rfl ?_
              refine w_iload rfl ?_
              refine w_ilt (by omega) (fun h29 => ?_) (fun h29 => ?_)
              · skip
                refine w_step rfl ?_
                refine w_retV ?_
                exact ⟨ok22, fr22, dq22, (by first | (rw [w2, tA_uA, if_neg (by omega), w1, tA_uA, if_neg (by omega)]; exact i3_9 _) | exact i3_9 _), (by first | (rw [w2, tA_uA, if_neg (by omega), w1, tA_uA, if_neg (by omega)]; exact i3_9 _) | exact i3_9 _), (by first | (rw [w2, tA_uA, if_neg (by omega), w1, tA_uA, if_neg (by omega)]; exact i3_9 _) | exact i3_9 _)⟩
              refine w_aload rfl ?_
              refine w_getR (g_68_0 _) ?_
              refine w_push kc_29 ?_
              refine w_push kc_5 ?_
              refine w_iload rfl ?_
              refine w_mul ?_
              refine w_add ?_
              refine w_push kc_3 ?_
              refine w_add ?_
              refine w_iload rfl ?_
              refine w_iast (i := (((29 + (5 * best)) + 3)).toNat) (ai_69 _) rfl (by omega) (by omega) (ax_69 (nr_S3 (s := best.toNat) (by omega))) ok22 (by omega) (fun t30 ht30 ok30 => ?_)
              have fr30 := fr22.uA ht30 (by simp)
              have wf30 := wf22.u69 ht30 (by omega)
              have dq30 := dq22.u69 ht30 (by omega)
              have w1 := ht30
              refine w_aload rfl ?_
              refine w_getR (g_68_0 _) ?_
              refine w_push kc_29 ?_
              refine w_push kc_5 ?_
              refine w_iload rfl ?_
              refine w_mul ?_
              refine w_add ?_
              refine w_push kc_4 ?_
              refine w_add ?_
              refine w_iload rfl ?_
              refine w_iast (i := (((29 + (5 * best)) + 4)).toNat) (ai_69 _) rfl (by omega) (by omega) (ax_69 (nr_S4 (s := best.toNat) (by omega))) ok30 (by omega) (fun t31 ht31 ok31 => ?_)
              have fr31 := fr30.uA ht31 (by simp)
              have wf31 := wf30.u69 ht31 (by omega)
              have dq31 := dq30.u69 ht31 (by omega)
              have w2 := ht31
              refine w_goto ?_
              refine w_step rfl ?_
              refine w_retV ?_
              exact ⟨ok31, fr31, dq31, (by first | (rw [w2, tA_uA, if_neg (by omega), w1, tA_uA, if_neg (by omega)]; exact i3_9 _) | exact i3_9 _), (by first | (rw [w2, tA_uA, if_neg (by omega), w1, tA_uA, if_neg (by omega)]; exact i3_9 _) | exact i3_9 _), (by first | (rw [w2, tA_uA, if_neg (by omega), w1, tA_uA, if_neg (by omega)]; exact i3_9 _) | exact i3_9 _)⟩
            refine w_iload rfl ?_
            refine w_push kc_2 ?_
            refine w_div (by omega) ?_
            refine w_istore (lv' := [some (.ref 68), some (.int (jI r)), some (.int (jI p)), some (.int (jI best)), some (.int (jI least)), some (.int (jI way)), some (.int (jI k)), some (.int (jI (k / 2))), dv o8]) rfl ?_
            refine w_aload rfl ?_
            refine w_iload rfl ?_
            refine w_push kc_3 ?_
            refine w_callV2I (oj_68 _).choose_spec rfl (c_X9_of ok22 (by omega) (by omega) (by omega) (by omega)) ?_
            rintro z32 t32 ⟨rfl, hp32_0, hp32_1, hp32_2⟩
            have hr32 := of_r3 (s := (k / 2)) ok22 (by omega)
            refine w_push kc_12 ?_
            refine w_cne (by omega) (fun h33 => ?_) (fun h33 => ?_)
            · skip
              refine w_step rfl ?_
              refine w_push kc_m1 ?_
              refine w_goto ?_
              refine w_step rfl ?_
              refine w_istore (lv' := [some (.ref 68), some (.int (jI r)), some (.int (jI p)), some (.int (jI best)), some (.int (jI least)), some (.int (jI way)), some (.int (jI k)), some (.int (jI (k / 2))), some (.int (jI (-1)))]) rfl ?_
              refine w_iload rfl ?_
              refine w_ilt (by omega) (fun _ => ?_) (fun h => absurd (by omega) h)
              refine w_step rfl ?_
              refine w_iinc (lv' := [some (.ref 68), some (.int (jI r)), some (.int (jI p)), some (.int (jI best)), some (.int (jI least)), some (.int (jI way)), some (.int (jI (k + 1))), some (.int (jI (k / 2))), some (.int (jI (-1)))]) kc_1 rfl rfl ?_
              refine w_goto ?_
              exact ih3 _ best least way (k + 1) (some (k / 2)) (some (-1)) t22 ok22 fr22 wf22 dq22 (by omega) (by omega) (by omega) (by omega) (by omega) (by omega) (by omega) (by omega) (by omega) (by first | exact eA | exact i3_9) (by omega) (by omega)
            refine w_iload rfl ?_
            refine w_aload rfl ?_
            refine w_getI (g_68_4 _) fe_68_4 ok22 (fun z34 hz34 hl34 hh34 => ?_)
            refine w_ceq (by omega) (fun h35 => ?_) (fun h35 => ?_)
            · skip
              refine w_step rfl ?_
              refine w_push kc_m1 ?_
              refine w_goto ?_
              refine w_step rfl ?_
              refine w_istore (lv' := [some (.ref 68), some (.int (jI r)), some (.int (jI p)), some (.int (jI best)), some (.int (jI least)), some (.int (jI way)), some (.int (jI k)), some (.int (jI (k / 2))), some (.int (jI (-1)))]) rfl ?_
              refine w_iload rfl ?_
              refine w_ilt (by omega) (fun _ => ?_) (fun h => absurd (by omega) h)
              refine w_step rfl ?_
              refine w_iinc (lv' := [some (.ref 68), some (.int (jI r)), some (.int (jI p)), some (.int (jI best)), some (.int (jI least)), some (.int (jI way)), some (.int (jI (k + 1))), some (.int (jI (k / 2))), some (.int (jI (-1)))]) kc_1 rfl rfl ?_
              refine w_goto ?_
              exact ih3 _ best least way (k + 1) (some (k / 2)) (some (-1)) t22 ok22 fr22 wf22 dq22 (by omega) (by omega) (by omega) (by omega) (by omega) (by omega) (by omega) (by omega) (by omega) (by first | exact eA | exact i3_9) (by omega) (by omega)
            refine w_aload rfl ?_
            refine w_iload rfl ?_
            refine w_iload rfl ?_
            refine w_iload rfl ?_
            refine w_push kc_2 ?_
            refine w_rem (by omega) ?_
            refine w_callV3I (oj_68 _).choose_spec rfl (c_X9_offOf ok22 wf22 (by omega) (by omega) (by omega) (by omega) (by omega) (by omega)) ?_
            rintro z36 t36 ⟨ok36, fq36, hp36_0, hp36_1⟩
            have fr36 := fr22.then fq36 (by simp)
            have wf36 := wf22.fr fq36 (by simp)
            have dq36 := dq22.fr fq36 (by simp)
            have eA : ∀ i, tA t36 69 i = tA t 69 i := fun i => (fq36.2.1 69 (by simp) i).trans (i3_9 i)
            refine w_goto ?_
            refine w_step rfl ?_
            refine w_istore (lv' := [some (.ref 68), some (.int (jI r)), some (.int (jI p)), some (.int (jI best)), some (.int (jI least)), some (.int (jI way)), some (.int (jI k)), some (.int (jI (k / 2))), some (.int (jI z36))]) rfl ?_
            refine w_iload rfl ?_
            refine w_ilt (by omega) (fun h37 => ?_) (fun h37 => ?_)
            · skip
              refine w_step rfl ?_
              refine w_iinc (lv' := [some (.ref 68), some (.int (jI r)), some (.int (jI p)), some (.int (jI best)), some (.int (jI least)), some (.int (jI way)), some (.int (jI (k + 1))), some (.int (jI (k / 2))), some (.int (jI z36))]) kc_1 rfl rfl ?_
              refine w_goto ?_
              exact ih3 _ best least way (k + 1) (some (k / 2)) (some z36) t36 ok36 fr36 wf36 dq36 (by omega) (by omega) (by omega) (by omega) (by omega) (by omega) (by omega) (by omega) (by omega) (by first | exact eA | exact i3_9) (by omega) (by omega)
            refine w_iload rfl ?_
            refine w_ilt (by omega) (fun h38 => ?_) (fun h38 => ?_)
            · skip
              refine w_step rfl ?_
              refine w_iload rfl ?_
              refine w_istore (lv' := [some (.ref 68), some (.int (jI r)), some (.int (jI p)), some (.int (jI (k / 2))), some (.int (jI least)), some (.int (jI way)), some (.int (jI k)), some (.int (jI (k / 2))), some (.int (jI z36))]) rfl ?_
              refine w_iload rfl ?_
              refine w_istore (lv' := [some (.ref 68), some (.int (jI r)), some (.int (jI p)), some (.int (jI (k / 2))), some (.int (jI z36)), some (.int (jI way)), some (.int (jI k)), some (.int (jI (k / 2))), some (.int (jI z36))]) rfl ?_
              refine w_iload rfl ?_
              refine w_push kc_2 ?_
              refine w_rem (by omega) ?_
              refine w_istore (lv' := [some (.ref 68), some (.int (jI r)), some (.int (jI p)), some (.int (jI (k / 2))), some (.int (jI z36)), some (.int (jI (k % 2))), some (.int (jI k)), some (.int (jI (k / 2))), some (.int (jI z36))]) rfl ?_
              refine w_goto ?_
              refine w_step rfl ?_
              refine w_iinc (lv' := [some (.ref 68), some (.int (jI r)), some (.int (jI p)), some (.int (jI (k / 2))), some (.int (jI z36)), some (.int (jI (k % 2))), some (.int (jI (k + 1))), some (.int (jI (k / 2))), some (.int (jI z36))]) kc_1 rfl rfl ?_
              refine w_goto ?_
              exact ih3 _ (k / 2) z36 (k % 2) (k + 1) (some (k / 2)) (some z36) t36 ok36 fr36 wf36 dq36 (by omega) (by omega) (by omega) (by omega) (by omega) (by omega) (by omega) (by omega) (by omega) (by first | exact eA | exact i3_9) (by omega) (by omega)
            refine w_iload rfl ?_
            refine w_iload rfl ?_
            refine w_cge (by omega) (fun h39 => ?_) (fun h39 => ?_)
            · skip
              refine w_step rfl ?_
              refine w_iinc (lv' := [some (.ref 68), some (.int (jI r)), some (.int (jI p)), some (.int (jI best)), some (.int (jI least)), some (.int (jI way)), some (.int (jI (k + 1))), some (.int (jI (k / 2))), some (.int (jI z36))]) kc_1 rfl rfl ?_
              refine w_goto ?_
              exact ih3 _ best least way (k + 1) (some (k / 2)) (some z36) t36 ok36 fr36 wf36 dq36 (by omega) (by omega) (by omega) (by omega) (by omega) (by omega) (by omega) (by omega) (by omega) (by first | exact eA | exact i3_9) (by omega) (by omega)
            refine w_goto ?_
            refine w_step rfl ?_
            refine w_iload rfl ?_
            refine w_istore (lv' := [some (.ref 68), some (.int (jI r)), some (.int (jI p)), some (.int (jI (k / 2))), some (.int (jI least)), some (.int (jI way)), some (.int (jI k)), some (.int (jI (k / 2))), some (.int (jI z36))]) rfl ?_
            refine w_iload rfl ?_
            refine w_istore (lv' := [some (.ref 68), some (.int (jI r)), some (.int (jI p)), some (.int (jI (k / 2))), some (.int (jI z36)), some (.int (jI way)), some (.int (jI k)), some (.int (jI (k / 2))), some (.int (jI z36))]) rfl ?_
            refine w_iload rfl ?_
            refine w_push kc_2 ?_
            refine w_rem (by omega) ?_
            refine w_istore (lv' := [some (.ref 68), some (.int (jI r)), some (.int (jI p)), some (.int (jI (k / 2))), some (.int (jI z36)), some (.int (jI (k % 2))), some (.int (jI k)), some (.int (jI (k / 2))), some (.int (jI z36))]) rfl ?_
            refine w_goto ?_
            refine w_step rfl ?_
            refine w_iinc (lv' := [some (.ref 68), some (.int (jI r)), some (.int (jI p)), some (.int (jI (k / 2))), some (.int (jI z36)), some (.int (jI (k % 2))), some (.int (jI (k + 1))), some (.int (jI (k / 2))), some (.int (jI z36))]) kc_1 rfl rfl ?_
            refine w_goto ?_
            exact ih3 _ (k / 2) z36 (k % 2) (k + 1) (some (k / 2)) (some z36) t36 ok36 fr36 wf36 dq36 (by omega) (by omega) (by omega) (by omega) (by omega) (by omega) (by omega) (by omega) (by omega) (by first | exact eA | exact i3_9) (by omega) (by omega)
        exact key3 25 _ (-1) 0 0 0 none none t ok fr q0 dq (by omega) (by omega) (by omega) (by omega) (by omega) (by omega) (by omega) (by omega) (by omega) (fun _ => rfl) (by omega) (by omega)
      refine w_iinc (lv' := [some (.ref 68), some (.int (jI r)), some (.int (jI (p + 1))), none, none, none, none, none, none]) kc_1 rfl rfl ?_
      refine w_goto ?_
      exact ih1 _ (p + 1)  (by omega) (by omega) (by omega) (by omega)
  exact key1 13 _ (3 * r)  (by omega) (by omega) (by omega) (by omega)
set_option maxRecDepth 100000 in
set_option maxHeartbeats 4000000 in
theorem c_X9_day {d : Nat} {t : TS}  (ok : OK t) (q0 : WF t 69) : CV (EX FU (d + 6)) 159 [.ref 68] (mk t) (fun t' => OK t' ∧ Fr [(69, 100), (81, 100), (82, 100)] t t' ∧ (Dq t t') ∧ (tA t' 69 0 = zdF (tA t 69 0) (tA t 69 3)) ∧ (0 ≤ tA t 69 2 → tA t 69 2 ≤ 1000000 → tA t' 69 2 = tA t 69 2 + 1)) := by
  refine CV_ent (d := d + 5) (Bk := bX9_day) (nL := 2) rfl rfl rfl (Nat.le_of_ble_eq_true rfl) ?_
  show Rn _ 1000000 0 [some (.ref 68), none] [] _ _
  have fr : Fr [(69, 100), (81, 100), (82, 100)] t t := Fr.rf _ _
  have hn0 := (ok.a (ax_69 nr_1)).1
  have hn1 := (ok.a (ax_69 nr_1)).2
  have dq : Dq t t := Dq.rf t
  refine w_step rfl ?_
  refine w_aload rfl ?_
  refine w_aload rfl ?_
  refine w_callV0I (oj_68 _).choose_spec rfl (c_X9_draw ok) ?_
  rintro z1 t1 ⟨ok1, fq1, hp1_0, hp1_1, hp1_2, hp1_3⟩
  have fr1 := fr.then fq1 (by simp)
  have wf1 := q0.u69 hp1_0 (by omega)
  have dq1 := dq.u69 hp1_0 (by omega)
  have ea : tA t1 69 0 = znF (tA t 69 0) := by rw [hp1_0, tA_uA, if_pos ⟨rfl, rfl⟩]
  have eb : tA t1 69 3 = tA t 69 3 := by rw [hp1_0, tA_uA, if_neg (by decide)]
  have ec : tA t1 69 2 = tA t 69 2 := by rw [hp1_0, tA_uA, if_neg (by decide)]
  refine w_push kc_4 ?_
  refine w_rem (by omega) ?_
  refine w_callV1V (oj_68 _).choose_spec rfl (c_X9_laysIn ok1 wf1 (by omega) (by omega)) ?_
  rintro t2 ⟨ok2, fq2, hp2_0, hp2_1, hp2_2, hp2_3⟩
  have fr2 := fr1.then fq2 (by simp)
  have wf2 := wf1.dq hp2_0
  have dq2 := dq1.trans hp2_0
  have ea : tA t2 69 0 = znF (tA t 69 0) := hp2_1.trans ea
  have eb : tA t2 69 3 = tA t 69 3 := hp2_3.trans eb
  have ec : tA t2 69 2 = tA t 69 2 := hp2_2.trans ec
  refine w_aload rfl ?_
  refine w_callV0I (oj_68 _).choose_spec rfl (c_X9_draw ok2) ?_
  rintro z3 t3 ⟨ok3, fq3, hp3_0, hp3_1, hp3_2, hp3_3⟩
  have fr3 := fr2.then fq3 (by simp)
  have wf3 := wf2.u69 hp3_0 (by omega)
  have dq3 := dq2.u69 hp3_0 (by omega)
  have ev : z3 = drF (znF (znF (tA t 69 0))) := by rw [hp3_1, ea]
  have ea : tA t3 69 0 = znF (znF (tA t 69 0)) := by rw [hp3_0, tA_uA, if_pos ⟨rfl, rfl⟩, ea]
  have eb : tA t3 69 3 = tA t 69 3 := by rw [hp3_0, tA_uA, if_neg (by decide)]; exact eb
  have ec : tA t3 69 2 = tA t 69 2 := by rw [hp3_0, tA_uA, if_neg (by decide)]; exact ec
  refine w_push kc_100 ?_
  refine w_rem (by omega) ?_
  refine w_aload rfl ?_
  refine w_getR (g_68_0 _) ?_
  refine w_push kc_3 ?_
  refine w_iald (i := 3) (ai_69 _) (by omega) (by omega) (ax_69 nr_3) ok3 (fun z4 hz4 hl4 hh4 => ?_)
  have ew : z4 = tA t 69 3 := by rw [hz4, eb]
  refine w_cge (by omega) (fun h5 => ?_) (fun h5 => ?_)
  · skip
    refine w_step rfl ?_
    refine w_aload rfl ?_
    refine w_getR (g_68_0 _) ?_
    refine w_push kc_2 ?_
    refine w_dup2 ?_
    refine w_iald (i := 2) (ai_69 _) (by omega) (by omega) (ax_69 nr_2) ok3 (fun z6 hz6 hl6 hh6 => ?_)
    refine w_push kc_1 ?_
    refine w_addW (fun z7 hz7 hl7 hh7 => ?_)
    refine w_iast (i := 2) (ai_69 _) rfl (by omega) (by omega) (ax_69 nr_2) ok3 (by omega) (fun t8 ht8 ok8 => ?_)
    have fr8 := fr3.uA ht8 (by simp)
    have wf8 := wf3.u69 ht8 (by omega)
    have dq8 := dq3.u69 ht8 (by omega)
    refine w_retV ?_
    exact ⟨ok8, fr8, dq8, (by rw [ht8, tA_uA, if_neg (by decide), ea]; unfold zdF; rw [← ev, ← ew]; first | rw [if_pos (by omega)] | rw [if_neg (by omega)]), (by intro h0 h1; rw [ht8, tA_uA, if_pos ⟨rfl, rfl⟩, hz7, nrm_id (by omega)]; omega)⟩
  refine w_aload rfl ?_
  refine w_aload rfl ?_
  refine w_callV0I (oj_68 _).choose_spec rfl (c_X9_draw ok3) ?_
  rintro z9 t9 ⟨ok9, fq9, hp9_0, hp9_1, hp9_2, hp9_3⟩
  have fr9 := fr3.then fq9 (by simp)
  have wf9 := wf3.u69 hp9_0 (by omega)
  have dq9 := dq3.u69 hp9_0 (by omega)
  have ea : tA t9 69 0 = znF (znF (znF (tA t 69 0))) := by rw [hp9_0, tA_uA, if_pos ⟨rfl, rfl⟩, ea]
  have ec : tA t9 69 2 = tA t 69 2 := by rw [hp9_0, tA_uA, if_neg (by decide)]; exact ec
  refine w_push kc_12 ?_
  refine w_rem (by omega) ?_
  refine w_callV1I (oj_68 _).choose_spec rfl (c_X9_holder ok9 (by omega) (by omega)) ?_
  rintro z10 t10 ⟨rfl, hp10_0, hp10_1⟩
  refine w_istore (lv' := [some (.ref 68), some (.int (jI z10))]) rfl ?_
  refine w_iload rfl ?_
  refine w_ilt (by omega) (fun h11 => ?_) (fun h11 => ?_)
  · skip
    refine w_step rfl ?_
    refine w_aload rfl ?_
    refine w_getR (g_68_0 _) ?_
    refine w_push kc_2 ?_
    refine w_dup2 ?_
    refine w_iald (i := 2) (ai_69 _) (by omega) (by omega) (ax_69 nr_2) ok9 (fun z12 hz12 hl12 hh12 => ?_)
    refine w_push kc_1 ?_
    refine w_addW (fun z13 hz13 hl13 hh13 => ?_)
    refine w_iast (i := 2) (ai_69 _) rfl (by omega) (by omega) (ax_69 nr_2) ok9 (by omega) (fun t14 ht14 ok14 => ?_)
    have fr14 := fr9.uA ht14 (by simp)
    have wf14 := wf9.u69 ht14 (by omega)
    have dq14 := dq9.u69 ht14 (by omega)
    refine w_retV ?_
    exact ⟨ok14, fr14, dq14, (by rw [ht14, tA_uA, if_neg (by decide), ea]; unfold zdF; rw [← ev, ← ew]; first | rw [if_pos (by omega)] | rw [if_neg (by omega)]), (by intro h0 h1; rw [ht14, tA_uA, if_pos ⟨rfl, rfl⟩, hz13, nrm_id (by omega)]; omega)⟩
  refine w_aload rfl ?_
  refine w_getR (g_68_0 _) ?_
  refine w_push kc_29 ?_
  refine w_push kc_5 ?_
  refine w_iload rfl ?_
  refine w_mul ?_
  refine w_add ?_
  refine w_push kc_4 ?_
  refine w_add ?_
  refine w_push kc_1 ?_
  refine w_aload rfl ?_
  refine w_iload rfl ?_
  refine w_push kc_4 ?_
  refine w_callV2I (oj_68 _).choose_spec rfl (c_X9_of ok9 (by omega) (by omega) (by omega) (by omega)) ?_
  rintro z15 t15 ⟨rfl, hp15_0, hp15_1, hp15_2⟩
  have hr15 := of_r4 (s := z10) ok9 (by omega)
  refine w_sub ?_
  refine w_iast (i := (((29 + (5 * z10)) + 4)).toNat) (ai_69 _) rfl (by omega) (by omega) (ax_69 (nr_S4 (s := z10.toNat) (by omega))) ok9 (by omega) (fun t16 ht16 ok16 => ?_)
  have fr16 := fr9.uA ht16 (by simp)
  have wf16 := wf9.u69 ht16 (by omega)
  have dq16 := dq9.u69 ht16 (by omega)
  have ea : tA t16 69 0 = znF (znF (znF (tA t 69 0))) := by rw [ht16, tA_uA, if_neg (by omega)]; exact ea
  have ec : tA t16 69 2 = tA t 69 2 := by rw [ht16, tA_uA, if_neg (by omega)]; exact ec
  refine w_goto ?_
  refine w_step rfl ?_
  refine w_aload rfl ?_
  refine w_getR (g_68_0 _) ?_
  refine w_push kc_2 ?_
  refine w_dup2 ?_
  refine w_iald (i := 2) (ai_69 _) (by omega) (by omega) (ax_69 nr_2) ok16 (fun z17 hz17 hl17 hh17 => ?_)
  refine w_push kc_1 ?_
  refine w_addW (fun z18 hz18 hl18 hh18 => ?_)
  refine w_iast (i := 2) (ai_69 _) rfl (by omega) (by omega) (ax_69 nr_2) ok16 (by omega) (fun t19 ht19 ok19 => ?_)
  have fr19 := fr16.uA ht19 (by simp)
  have wf19 := wf16.u69 ht19 (by omega)
  have dq19 := dq16.u69 ht19 (by omega)
  refine w_retV ?_
  exact ⟨ok19, fr19, dq19, (by rw [ht19, tA_uA, if_neg (by decide), ea]; unfold zdF; rw [← ev, ← ew]; first | rw [if_pos (by omega)] | rw [if_neg (by omega)]), (by intro h0 h1; rw [ht19, tA_uA, if_pos ⟨rfl, rfl⟩, hz18, nrm_id (by omega)]; omega)⟩
set_option maxRecDepth 100000 in
set_option maxHeartbeats 4000000 in
theorem c_X9_goesOn {d : Nat} {t : TS} {n : Int}  (ok : OK t) (q0 : WF t 69) (q1 : -2147483648 ≤ n) (q2 : n ≤ 2147483647) (q3 : n ≤ 1000) : CV (EX FU (d + 7)) 160 [.ref 68, .int (jI n)] (mk t) (fun t' => OK t' ∧ Fr [(69, 100), (81, 100), (82, 100)] t t' ∧ (Dq t t') ∧ (tA t' 69 0 = zdsF n.toNat (tA t 69 0) (tA t 69 3)) ∧ (0 ≤ n → 0 ≤ tA t 69 2 → tA t 69 2 + n ≤ 1000000 → tA t' 69 2 = tA t 69 2 + n)) := by
  refine CV_ent (d := d + 6) (Bk := bX9_goesOn) (nL := 3) rfl rfl rfl (Nat.le_of_ble_eq_true rfl) ?_
  show Rn _ 1000000 0 [some (.ref 68), some (.int (jI n)), none] [] _ _
  have fr : Fr [(69, 100), (81, 100), (82, 100)] t t := Fr.rf _ _
  have hn0 := (ok.a (ax_69 nr_1)).1
  have hn1 := (ok.a (ax_69 nr_1)).2
  have dq : Dq t t := Dq.rf t
  refine w_step rfl ?_
  refine w_push kc_0 ?_
  refine w_istore (lv' := [some (.ref 68), some (.int (jI n)), some (.int (jI 0))]) rfl ?_
  refine w_goto ?_
  have key1 : ∀ (n1 M1 : Nat) (i : Int) (t1 : TS), OK t1 → Fr [(69, 100), (81, 100), (82, 100)] t t1 → WF t1 69 → Dq t t1 → (0 ≤ i) → (i ≤ 1000) → (i ≤ n ∨ i = 0) → (tA t1 69 3 = tA t 69 3) → (tA t1 69 0 = zdsF i.toNat (tA t 69 0) (tA t 69 3)) → (0 ≤ tA t 69 2 → tA t 69 2 + n ≤ 1000000 → tA t1 69 2 = tA t 69 2 + i) → 1000 - i < (n1 : Int) → 60 * n1 + (1000) ≤ M1 → Rn (bX9_goesOn (EX FU (d + 6))) M1 1 [some (.ref 68), some (.int (jI n)), some (.int (jI i))] [] (mk t1) (PV (fun t' => OK t' ∧ Fr [(69, 100), (81, 100), (82, 100)] t t' ∧ (Dq t t') ∧ (tA t' 69 0 = zdsF n.toNat (tA t 69 0) (tA t 69 3)) ∧ (0 ≤ n → 0 ≤ tA t 69 2 → tA t 69 2 + n ≤ 1000000 → tA t' 69 2 = tA t 69 2 + n))) := by
    intro n1
    induction n1 with
    | zero => intro M1 i t1 ok1 fr1 wf1 dq1 i1_0 i1_1 i1_2 i1_3 i1_4 i1_5 v1 f1; exfalso; omega
    | succ n1 ih1 =>
      intro M1 i t1 ok1 fr1 wf1 dq1 i1_0 i1_1 i1_2 i1_3 i1_4 i1_5 v1 f1
      obtain ⟨M1, rfl⟩ : ∃ m, M1 = m + 60 := ⟨M1 - 60, by omega⟩
      refine w_step rfl ?_
      refine w_iload rfl ?_
      refine w_iload rfl ?_
      refine w_cge (by omega) (fun h2 => ?_) (fun h2 => ?_)
      · skip
        refine w_step rfl ?_
        refine w_retV ?_
        exact ⟨ok1, fr1, dq1, (by rw [i1_4, show n.toNat = i.toNat by omega]), (by intro h h0 h1; have e1 := i1_5 h0 h1; omega)⟩
      refine w_aload rfl ?_
      refine w_callV0V (oj_68 _).choose_spec rfl (c_X9_day ok1 wf1) ?_
      rintro t3 ⟨ok3, fq3, hp3_0, hp3_1, hp3_2⟩
      have fr3 := fr1.then fq3 (by simp)
      have wf3 := wf1.dq hp3_0
      have dq3 := dq1.trans hp3_0
      have ez : tA t3 69 0 = zdsF (i + 1).toNat (tA t 69 0) (tA t 69 3) := by rw [hp3_1, i1_4, i1_3, show (i + 1).toNat = i.toNat + 1 by omega]; rfl
      have ed := hp3_2
      refine w_iinc (lv' := [some (.ref 68), some (.int (jI n)), some (.int (jI (i + 1)))]) kc_1 rfl rfl ?_
      refine w_goto ?_
      exact ih1 _ (i + 1) t3 ok3 fr3 wf3 dq3 (by omega) (by omega) (by omega) (dq3 3 (by decide) (by decide) (by decide)) ez (by intro h0 h1; have e1 := i1_5 h0 h1; have e2 := ed (by omega) (by omega); omega) (by omega) (by omega)
  exact key1 1001 _ 0 t ok fr q0 dq (by omega) (by omega) (by omega) rfl rfl (by intro _ _; omega) (by omega) (by omega)
set_option maxRecDepth 100000 in
set_option maxHeartbeats 4000000 in
theorem c_X9_picture {d : Nat} {t : TS}  (ok : OK t) (q0 : WF t 69) : CI (EX FU (d + 5)) 162 [.ref 68] (mk t) (fun z t' => OK t' ∧ Fr [(81, 100), (82, 100)] t t' ∧ (0 ≤ z) ∧ (z ≤ 2376)) := by
  refine CI_ent (d := d + 4) (Bk := bX9_picture) (nL := 4) rfl rfl rfl (Nat.le_of_ble_eq_true rfl) ?_
  show Rn _ 1000000 0 [some (.ref 68), none, none, none] [] _ _
  have fr : Fr [(81, 100), (82, 100)] t t := Fr.rf _ _
  have hn0 := (ok.a (ax_69 nr_1)).1
  have hn1 := (ok.a (ax_69 nr_1)).2
  refine w_step rfl ?_
  refine w_push kc_0 ?_
  refine w_istore (lv' := [some (.ref 68), some (.int (jI 0)), none, none]) rfl ?_
  refine w_push kc_0 ?_
  refine w_istore (lv' := [some (.ref 68), some (.int (jI 0)), some (.int (jI 0)), none]) rfl ?_
  refine w_goto ?_
  have key1 : ∀ (n1 M1 : Nat) (acc : Int) (p : Int) (o3 : Option Int) (t1 : TS), OK t1 → Fr [(81, 100), (82, 100)] t t1 → WF t1 69 → (0 ≤ p) → (p ≤ 12) → (0 ≤ acc) → (acc ≤ 198 * p) → 12 - p < (n1 : Int) → 60 * n1 + (1000) ≤ M1 → Rn (bX9_picture (EX FU (d + 4))) M1 1 [some (.ref 68), some (.int (jI acc)), some (.int (jI p)), dv o3] [] (mk t1) (PI (fun z t' => OK t' ∧ Fr [(81, 100), (82, 100)] t t' ∧ (0 ≤ z) ∧ (z ≤ 2376))) := by
    intro n1
    induction n1 with
    | zero => intro M1 acc p o3 t1 ok1 fr1 wf1 i1_0 i1_1 i1_2 i1_3 v1 f1; exfalso; omega
    | succ n1 ih1 =>
      intro M1 acc p o3 t1 ok1 fr1 wf1 i1_0 i1_1 i1_2 i1_3 v1 f1
      obtain ⟨M1, rfl⟩ : ∃ m, M1 = m + 60 := ⟨M1 - 60, by omega⟩
      refine w_step rfl ?_
      refine w_iload rfl ?_
      refine w_push kc_12 ?_
      refine w_cge (by omega) (fun h2 => ?_) (fun h2 => ?_)
      · skip
        refine w_step rfl ?_
        refine w_iload rfl ?_
        refine w_retI rfl ?_
        exact ⟨ok1, fr1, (by omega), (by omega)⟩
      refine w_aload rfl ?_
      refine w_iload rfl ?_
      refine w_callV1I (oj_68 _).choose_spec rfl (c_X9_holder ok1 (by omega) (by omega)) ?_
      rintro z3 t3 ⟨rfl, hp3_0, hp3_1⟩
      refine w_istore (lv' := [some (.ref 68), some (.int (jI acc)), some (.int (jI p)), some (.int (jI z3))]) rfl ?_
      refine w_iload rfl ?_
      refine w_iload rfl ?_
      refine w_ige (by omega) (fun h4 => ?_) (fun h4 => ?_)
      · skip
        refine w_step rfl ?_
        refine w_aload rfl ?_
        refine w_iload rfl ?_
        refine w_iload rfl ?_
        refine w_aload rfl ?_
        refine w_iload rfl ?_
        refine w_push kc_4 ?_
        refine w_callV2I (oj_68 _).choose_spec rfl (c_X9_of ok1 (by omega) (by omega) (by omega) (by omega)) ?_
        rintro z5 t5 ⟨rfl, hp5_0, hp5_1, hp5_2⟩
        have hr5 := of_r4 (s := z3) ok1 (by omega)
        refine w_callV3I (oj_68 _).choose_spec rfl (c_X9_offOf ok1 wf1 (by omega) (by omega) (by omega) (by omega) (by omega) (by omega)) ?_
        rintro z6 t6 ⟨ok6, fq6, hp6_0, hp6_1⟩
        have fr6 := fr1.then fq6 (by simp)
        have wf6 := wf1.fr fq6 (by simp)
        refine w_goto ?_
        refine w_step rfl ?_
        refine w_add ?_
        refine w_istore (lv' := [some (.ref 68), some (.int (jI (acc + z6))), some (.int (jI p)), some (.int (jI z3))]) rfl ?_
        refine w_iinc (lv' := [some (.ref 68), some (.int (jI (acc + z6))), some (.int (jI (p + 1))), some (.int (jI z3))]) kc_1 rfl rfl ?_
        refine w_goto ?_
        exact ih1 _ (acc + z6) (p + 1) (some z3) t6 ok6 fr6 wf6 (by omega) (by omega) (by omega) (by omega) (by omega) (by omega)
      refine w_push kc_198 ?_
      refine w_goto ?_
      refine w_step rfl ?_
      refine w_add ?_
      refine w_istore (lv' := [some (.ref 68), some (.int (jI (acc + 198))), some (.int (jI p)), some (.int (jI z3))]) rfl ?_
      refine w_iinc (lv' := [some (.ref 68), some (.int (jI (acc + 198))), some (.int (jI (p + 1))), some (.int (jI z3))]) kc_1 rfl rfl ?_
      refine w_goto ?_
      exact ih1 _ (acc + 198) (p + 1) (some z3) t1 ok1 fr1 wf1 (by omega) (by omega) (by omega) (by omega) (by omega) (by omega)
  exact key1 13 _ 0 0 none t ok fr q0 (by omega) (by omega) (by omega) (by omega) (by omega) (by omega)
set_option maxRecDepth 100000 in
set_option maxHeartbeats 4000000 in
theorem c_X9_matches {d : Nat} {t : TS}  (ok : OK t) : CI (EX FU (d + 3)) 163 [.ref 68] (mk t) (fun z t' => t = t' ∧ (0 ≤ z) ∧ (z ≤ 11)) := by
  refine CI_ent (d := d + 2) (Bk := bX9_matches) (nL := 5) rfl rfl rfl (Nat.le_of_ble_eq_true rfl) ?_
  show Rn _ 1000000 0 [some (.ref 68), none, none, none, none] [] _ _
  have hn0 := (ok.a (ax_69 nr_1)).1
  have hn1 := (ok.a (ax_69 nr_1)).2
  refine w_step rfl ?_
  refine w_push kc_0 ?_
  refine w_istore (lv' := [some (.ref 68), some (.int (jI 0)), none, none, none]) rfl ?_
  refine w_push kc_0 ?_
  refine w_istore (lv' := [some (.ref 68), some (.int (jI 0)), some (.int (jI 0)), none, none]) rfl ?_
  refine w_goto ?_
  have key1 : ∀ (n1 M1 : Nat) (acc : Int) (p : Int) (o3 : Option Int) (o4 : Option Int), (0 ≤ p) → (p ≤ 11) → (0 ≤ acc) → (acc ≤ p) → 11 - p < (n1 : Int) → 60 * n1 + (1000) ≤ M1 → Rn (bX9_matches (EX FU (d + 2))) M1 1 [some (.ref 68), some (.int (jI acc)), some (.int (jI p)), dv o3, dv o4] [] (mk t) (PI (fun z t' => t = t' ∧ (0 ≤ z) ∧ (z ≤ 11))) := by
    intro n1
    induction n1 with
    | zero => intro M1 acc p o3 o4 i1_0 i1_1 i1_2 i1_3 v1 f1; exfalso; omega
    | succ n1 ih1 =>
      intro M1 acc p o3 o4 i1_0 i1_1 i1_2 i1_3 v1 f1
      obtain ⟨M1, rfl⟩ : ∃ m, M1 = m + 60 := ⟨M1 - 60, by omega⟩
      refine w_step rfl ?_
      refine w_iload rfl ?_
      refine w_push kc_11 ?_
      refine w_cge (by omega) (fun h1 => ?_) (fun h1 => ?_)
      · skip
        refine w_step rfl ?_
        refine w_iload rfl ?_
        refine w_retI rfl ?_
        exact ⟨rfl, (by omega), (by omega)⟩
      refine w_aload rfl ?_
      refine w_iload rfl ?_
      refine w_callV1I (oj_68 _).choose_spec rfl (c_X9_holder ok (by omega) (by omega)) ?_
      rintro z2 t2 ⟨rfl, hp2_0, hp2_1⟩
      refine w_istore (lv' := [some (.ref 68), some (.int (jI acc)), some (.int (jI p)), some (.int (jI z2)), dv o4]) rfl ?_
      refine w_aload rfl ?_
      refine w_iload rfl ?_
      refine w_push kc_1 ?_
      refine w_add ?_
      refine w_callV1I (oj_68 _).choose_spec rfl (c_X9_holder ok (by omega) (by omega)) ?_
      rintro z3 t3 ⟨rfl, hp3_0, hp3_1⟩
      refine w_istore (lv' := [some (.ref 68), some (.int (jI acc)), some (.int (jI p)), some (.int (jI z2)), some (.int (jI z3))]) rfl ?_
      refine w_iload rfl ?_
      refine w_push kc_3 ?_
      refine w_rem (by omega) ?_
      refine w_push kc_2 ?_
      refine w_cge (by omega) (fun h4 => ?_) (fun h4 => ?_)
      · skip
        refine w_step rfl ?_
        refine w_iinc (lv' := [some (.ref 68), some (.int (jI acc)), some (.int (jI (p + 1))), some (.int (jI z2)), some (.int (jI z3))]) kc_1 rfl rfl ?_
        refine w_goto ?_
        exact ih1 _ acc (p + 1) (some z2) (some z3)  (by omega) (by omega) (by omega) (by omega) (by omega) (by omega)
      refine w_iload rfl ?_
      refine w_ilt (by omega) (fun h5 => ?_) (fun h5 => ?_)
      · skip
        refine w_step rfl ?_
        refine w_iinc (lv' := [some (.ref 68), some (.int (jI acc)), some (.int (jI (p + 1))), some (.int (jI z2)), some (.int (jI z3))]) kc_1 rfl rfl ?_
        refine w_goto ?_
        exact ih1 _ acc (p + 1) (some z2) (some z3)  (by omega) (by omega) (by omega) (by omega) (by omega) (by omega)
      refine w_iload rfl ?_
      refine w_ilt (by omega) (fun h6 => ?_) (fun h6 => ?_)
      · skip
        refine w_step rfl ?_
        refine w_iinc (lv' := [some (.ref 68), some (.int (jI acc)), some (.int (jI (p + 1))), some (.int (jI z2)), some (.int (jI z3))]) kc_1 rfl rfl ?_
        refine w_goto ?_
        exact ih1 _ acc (p + 1) (some z2) (some z3)  (by omega) (by omega) (by omega) (by omega) (by omega) (by omega)
      refine w_iload rfl ?_
      refine w_aload rfl ?_
      refine w_iload rfl ?_
      refine w_push kc_1 ?_
      refine w_aload rfl ?_
      refine w_iload rfl ?_
      refine w_push kc_4 ?_
      refine w_callV2I (oj_68 _).choose_spec rfl (c_X9_of ok (by omega) (by omega) (by omega) (by omega)) ?_
      rintro z7 t7 ⟨rfl, hp7_0, hp7_1, hp7_2⟩
      have hr7 := of_r4 (s := z2) ok (by omega)
      refine w_callV3I (oj_68 _).choose_spec rfl (c_X9_spotsOf ok (by omega) (by omega) (by omega) (by omega) (by omega) (by omega)) ?_
      rintro z8 t8 ⟨rfl, hp8_0, hp8_1⟩
      refine w_aload rfl ?_
      refine w_iload rfl ?_
      refine w_push kc_0 ?_
      refine w_aload rfl ?_
      refine w_iload rfl ?_
      refine w_push kc_4 ?_
      refine w_callV2I (oj_68 _).choose_spec rfl (c_X9_of ok (by omega) (by omega) (by omega) (by omega)) ?_
      rintro z9 t9 ⟨rfl, hp9_0, hp9_1, hp9_2⟩
      have hr9 := of_r4 (s := z3) ok (by omega)
      refine w_callV3I (oj_68 _).choose_spec rfl (c_X9_spotsOf ok (by omega) (by omega) (by omega) (by omega) (by omega) (by omega)) ?_
      rintro z10 t10 ⟨rfl, hp10_0, hp10_1⟩
      refine w_cne (by omega) (fun h11 => ?_) (fun h11 => ?_)
      · skip
        refine w_step rfl ?_
        refine w_push kc_0 ?_
        refine w_goto ?_
        refine w_step rfl ?_
        refine w_add ?_
        refine w_istore (lv' := [some (.ref 68), some (.int (jI (acc + 0))), some (.int (jI p)), some (.int (jI z2)), some (.int (jI z3))]) rfl ?_
        refine w_goto ?_
        refine w_step rfl ?_
        refine w_iinc (lv' := [some (.ref 68), some (.int (jI (acc + 0))), some (.int (jI (p + 1))), some (.int (jI z2)), some (.int (jI z3))]) kc_1 rfl rfl ?_
        refine w_goto ?_
        exact ih1 _ (acc + 0) (p + 1) (some z2) (some z3)  (by omega) (by omega) (by omega) (by omega) (by omega) (by omega)
      refine w_push kc_1 ?_
      refine w_goto ?_
      refine w_step rfl ?_
      refine w_add ?_
      refine w_istore (lv' := [some (.ref 68), some (.int (jI (acc + 1))), some (.int (jI p)), some (.int (jI z2)), some (.int (jI z3))]) rfl ?_
      refine w_goto ?_
      refine w_step rfl ?_
      refine w_iinc (lv' := [some (.ref 68), some (.int (jI (acc + 1))), some (.int (jI (p + 1))), some (.int (jI z2)), some (.int (jI z3))]) kc_1 rfl rfl ?_
      refine w_goto ?_
      exact ih1 _ (acc + 1) (p + 1) (some z2) (some z3)  (by omega) (by omega) (by omega) (by omega) (by omega) (by omega)
  exact key1 13 _ 0 0 none none  (by omega) (by omega) (by omega) (by omega) (by omega) (by omega)
set_option maxRecDepth 100000 in
set_option maxHeartbeats 4000000 in
theorem c_X9_king {d : Nat} {t : TS} {w : Int}  (ok : OK t) (q0 : WF t 69) (q1 : -2147483648 ≤ w) (q2 : w ≤ 2147483647) : CI (EX FU (d + 6)) 164 [.ref 68, .int (jI w)] (mk t) (fun z t' => OK t' ∧ Fr [(81, 100), (82, 100)] t t' ∧ (-2147483648 ≤ z) ∧ (z ≤ 2147483647)) := by
  refine CI_ent (d := d + 5) (Bk := bX9_king) (nL := 4) rfl rfl rfl (Nat.le_of_ble_eq_true rfl) ?_
  show Rn _ 1000000 0 [some (.ref 68), some (.int (jI w)), none, none] [] _ _
  have fr : Fr [(81, 100), (82, 100)] t t := Fr.rf _ _
  have hn0 := (ok.a (ax_69 nr_1)).1
  have hn1 := (ok.a (ax_69 nr_1)).2
  refine w_step rfl ?_
  refine w_iload rfl ?_
  have hs1 : w = 0 ∨ w = 1 ∨ w = 2 ∨ w = 3 ∨ (w < 0 ∨ 0 + 4 ≤ w) := (by omega)
  rcases hs1 with hs1 | hs1 | hs1 | hs1 | hs1
  · refine w_sw (n := 1) (tsw_at hs1 (by decide)) ?_
    refine w_step rfl ?_
    refine w_aload rfl ?_
    refine w_callV0I (oj_68 _).choose_spec rfl (c_X9_picture ok q0) ?_
    rintro z2 t2 ⟨ok2, fq2, hp2_0, hp2_1⟩
    have fr2 := fr.then fq2 (by simp)
    have wf2 := q0.fr fq2 (by simp)
    refine w_retI rfl ?_
    exact ⟨ok2, fr2, (by omega), (by omega)⟩
  · refine w_sw (n := 2) (tsw_at hs1 (by decide)) ?_
    refine w_step rfl ?_
    refine w_aload rfl ?_
    refine w_callV0I (oj_68 _).choose_spec rfl (c_X9_matches ok) ?_
    rintro z3 t3 ⟨rfl, hp3_0, hp3_1⟩
    refine w_retI rfl ?_
    exact ⟨ok, fr, (by omega), (by omega)⟩
  · refine w_sw (n := 3) (tsw_at hs1 (by decide)) ?_
    refine w_step rfl ?_
    refine w_aload rfl ?_
    refine w_callV0I (oj_68 _).choose_spec rfl (c_X9_manyLaid ok) ?_
    rintro z4 t4 ⟨rfl, hp4_0, hp4_1⟩
    refine w_retI rfl ?_
    exact ⟨ok, fr, (by omega), (by omega)⟩
  · refine w_sw (n := 4) (tsw_at hs1 (by decide)) ?_
    refine w_step rfl ?_
    refine w_push kc_0 ?_
    refine w_istore (lv' := [some (.ref 68), some (.int (jI w)), some (.int (jI 0)), none]) rfl ?_
    refine w_push kc_0 ?_
    refine w_istore (lv' := [some (.ref 68), some (.int (jI w)), some (.int (jI 0)), some (.int (jI 0))]) rfl ?_
    refine w_goto ?_
    have key5 : ∀ (n5 M5 : Nat) (acc : Int) (p : Int), (0 ≤ p) → (p ≤ 12) → (-2147483648 ≤ acc) → (acc ≤ 2147483647) → 12 - p < (n5 : Int) → 60 * n5 + (1000) ≤ M5 → Rn (bX9_king (EX FU (d + 5))) M5 5 [some (.ref 68), some (.int (jI w)), some (.int (jI acc)), some (.int (jI p))] [] (mk t) (PI (fun z t' => OK t' ∧ Fr [(81, 100), (82, 100)] t t' ∧ (-2147483648 ≤ z) ∧ (z ≤ 2147483647))) := by
      intro n5
      induction n5 with
      | zero => intro M5 acc p i5_0 i5_1 i5_2 i5_3 v5 f5; exfalso; omega
      | succ n5 ih5 =>
        intro M5 acc p i5_0 i5_1 i5_2 i5_3 v5 f5
        obtain ⟨M5, rfl⟩ : ∃ m, M5 = m + 60 := ⟨M5 - 60, by omega⟩
        refine w_step rfl ?_
        refine w_iload rfl ?_
        refine w_push kc_12 ?_
        refine w_cge (by omega) (fun h5 => ?_) (fun h5 => ?_)
        · skip
          refine w_step rfl ?_
          refine w_iload rfl ?_
          refine w_retI rfl ?_
          exact ⟨ok, fr, (by omega), (by omega)⟩
        refine w_iload rfl ?_
        refine w_aload rfl ?_
        refine w_iload rfl ?_
        refine w_callV1I (oj_68 _).choose_spec rfl (c_X9_holder ok (by omega) (by omega)) ?_
        rintro z6 t6 ⟨rfl, hp6_0, hp6_1⟩
        refine w_ige (by omega) (fun h7 => ?_) (fun h7 => ?_)
        · skip
          refine w_step rfl ?_
          refine w_push kc_1 ?_
          refine w_iload rfl ?_
          refine w_bin (fun z8 hz8 hl8 hh8 => ?_)
          refine w_goto ?_
          refine w_step rfl ?_
          refine w_bin (fun z9 hz9 hl9 hh9 => ?_)
          refine w_istore (lv' := [some (.ref 68), some (.int (jI w)), some (.int (jI z9)), some (.int (jI p))]) rfl ?_
          refine w_iinc (lv' := [some (.ref 68), some (.int (jI w)), some (.int (jI z9)), some (.int (jI (p + 1)))]) kc_1 rfl rfl ?_
          refine w_goto ?_
          exact ih5 _ z9 (p + 1)  (by omega) (by omega) (by omega) (by omega) (by omega) (by omega)
        refine w_push kc_0 ?_
        refine w_goto ?_
        refine w_step rfl ?_
        refine w_bin (fun z10 hz10 hl10 hh10 => ?_)
        refine w_istore (lv' := [some (.ref 68), some (.int (jI w)), some (.int (jI z10)), some (.int (jI p))]) rfl ?_
        refine w_iinc (lv' := [some (.ref 68), some (.int (jI w)), some (.int (jI z10)), some (.int (jI (p + 1)))]) kc_1 rfl rfl ?_
        refine w_goto ?_
        exact ih5 _ z10 (p + 1)  (by omega) (by omega) (by omega) (by omega) (by omega) (by omega)
    exact key5 13 _ 0 0  (by omega) (by omega) (by omega) (by omega) (by omega) (by omega)
  · refine w_sw (n := 9) (tsw_df (m := 4) rfl (by omega) (by omega)) ?_
    refine w_step rfl ?_
    refine w_push kc_m1000000001 ?_
    refine w_retI rfl ?_
    exact ⟨ok, fr, (by omega), (by omega)⟩
set_option maxRecDepth 100000 in
set_option maxHeartbeats 4000000 in
theorem c_X9_leastAt {d : Nat} {t : TS} {s p : Int}  (ok : OK t) (q0 : WF t 69) (q1 : 0 ≤ s) (q2 : s ≤ 11) (q3 : 0 ≤ p) (q4 : p ≤ 11) : CI (EX FU (d + 5)) 166 [.ref 68, .int (jI s), .int (jI p)] (mk t) (fun z t' => OK t' ∧ Fr [(81, 100), (82, 100)] t t' ∧ (0 ≤ z) ∧ (z ≤ 198)) := by
  refine CI_ent (d := d + 4) (Bk := bX9_leastAt) (nL := 5) rfl rfl rfl (Nat.le_of_ble_eq_true rfl) ?_
  show Rn _ 1000000 0 [some (.ref 68), some (.int (jI s)), some (.int (jI p)), none, none] [] _ _
  have fr : Fr [(81, 100), (82, 100)] t t := Fr.rf _ _
  have hn0 := (ok.a (ax_69 nr_1)).1
  have hn1 := (ok.a (ax_69 nr_1)).2
  refine w_step rfl ?_
  refine w_aload rfl ?_
  refine w_iload rfl ?_
  refine w_iload rfl ?_
  refine w_push kc_0 ?_
  refine w_callV3I (oj_68 _).choose_spec rfl (c_X9_offOf ok q0 (by omega) (by omega) (by omega) (by omega) (by omega) (by omega)) ?_
  rintro z1 t1 ⟨ok1, fq1, hp1_0, hp1_1⟩
  have fr1 := fr.then fq1 (by simp)
  have wf1 := q0.fr fq1 (by simp)
  refine w_istore (lv' := [some (.ref 68), some (.int (jI s)), some (.int (jI p)), some (.int (jI z1)), none]) rfl ?_
  refine w_aload rfl ?_
  refine w_iload rfl ?_
  refine w_iload rfl ?_
  refine w_push kc_1 ?_
  refine w_callV3I (oj_68 _).choose_spec rfl (c_X9_offOf ok1 wf1 (by omega) (by omega) (by omega) (by omega) (by omega) (by omega)) ?_
  rintro z2 t2 ⟨ok2, fq2, hp2_0, hp2_1⟩
  have fr2 := fr1.then fq2 (by simp)
  have wf2 := wf1.fr fq2 (by simp)
  refine w_istore (lv' := [some (.ref 68), some (.int (jI s)), some (.int (jI p)), some (.int (jI z1)), some (.int (jI z2))]) rfl ?_
  refine w_iload rfl ?_
  refine w_iload rfl ?_
  refine w_cge (by omega) (fun h3 => ?_) (fun h3 => ?_)
  · skip
    refine w_step rfl ?_
    refine w_iload rfl ?_
    refine w_goto ?_
    refine w_step rfl ?_
    refine w_retI rfl ?_
    exact ⟨ok2, fr2, (by omega), (by omega)⟩
  refine w_iload rfl ?_
  refine w_goto ?_
  refine w_step rfl ?_
  refine w_retI rfl ?_
  exact ⟨ok2, fr2, (by omega), (by omega)⟩
set_option maxRecDepth 100000 in
set_option maxHeartbeats 4000000 in
theorem c_X9_bits {d : Nat} {t : TS} {x : Int}  (ok : OK t) (q0 : -2147483648 ≤ x) (q1 : x ≤ 2147483647) : CI (EX FU (d + 1)) 167 [.int (jI x)] (mk t) (fun z t' => t = t' ∧ (0 ≤ z) ∧ (z ≤ 12)) := by
  refine CI_ent (d := d + 0) (Bk := bX9_bits) (nL := 3) rfl rfl rfl (Nat.le_of_ble_eq_true rfl) ?_
  show Rn _ 1000000 0 [some (.int (jI x)), none, none] [] _ _
  refine w_step rfl ?_
  refine w_push kc_0 ?_
  refine w_istore (lv' := [some (.int (jI x)), some (.int (jI 0)), none]) rfl ?_
  refine w_push kc_0 ?_
  refine w_istore (lv' := [some (.int (jI x)), some (.int (jI 0)), some (.int (jI 0))]) rfl ?_
  refine w_goto ?_
  have key1 : ∀ (n1 M1 : Nat) (n : Int) (k : Int), (0 ≤ k) → (k ≤ 12) → (0 ≤ n) → (n ≤ k) → 12 - k < (n1 : Int) → 60 * n1 + (1000) ≤ M1 → Rn (bX9_bits (EX FU (d + 0))) M1 1 [some (.int (jI x)), some (.int (jI n)), some (.int (jI k))] [] (mk t) (PI (fun z t' => t = t' ∧ (0 ≤ z) ∧ (z ≤ 12))) := by
    intro n1
    induction n1 with
    | zero => intro M1 n k i1_0 i1_1 i1_2 i1_3 v1 f1; exfalso; omega
    | succ n1 ih1 =>
      intro M1 n k i1_0 i1_1 i1_2 i1_3 v1 f1
      obtain ⟨M1, rfl⟩ : ∃ m, M1 = m + 60 := ⟨M1 - 60, by omega⟩
      refine w_step rfl ?_
      refine w_iload rfl ?_
      refine w_push kc_12 ?_
      refine w_cge (by omega) (fun h1 => ?_) (fun h1 => ?_)
      · skip
        refine w_step rfl ?_
        refine w_iload rfl ?_
        refine w_retI rfl ?_
        exact ⟨rfl, (by omega), (by omega)⟩
      refine w_iload rfl ?_
      refine w_iload rfl ?_
      refine w_iload rfl ?_
      refine w_bin (fun z2 hz2 hl2 hh2 => ?_)
      refine w_push kc_1 ?_
      refine w_bin (fun z3 hz3 hl3 hh3 => ?_)
      have hu3 := ah_and1 hz3
      refine w_add ?_
      refine w_istore (lv' := [some (.int (jI x)), some (.int (jI (n + z3))), some (.int (jI k))]) rfl ?_
      refine w_iinc (lv' := [some (.int (jI x)), some (.int (jI (n + z3))), some (.int (jI (k + 1)))]) kc_1 rfl rfl ?_
      refine w_goto ?_
      exact ih1 _ (n + z3) (k + 1)  (by omega) (by omega) (by omega) (by omega) (by omega) (by omega)
  exact key1 13 _ 0 0  (by omega) (by omega) (by omega) (by omega) (by omega) (by omega)
set_option maxRecDepth 100000 in
set_option maxHeartbeats 4000000 in
theorem c_X9_layable {d : Nat} {t : TS} {m : Int}  (ok : OK t) (q0 : -2147483648 ≤ m) (q1 : m ≤ 2147483647) : CI (EX FU (d + 2)) 168 [.ref 68, .int (jI m)] (mk t) (fun z t' => t = t' ∧ (-2147483648 ≤ z) ∧ (z ≤ 2147483647)) := by
  refine CI_ent (d := d + 1) (Bk := bX9_layable) (nL := 4) rfl rfl rfl (Nat.le_of_ble_eq_true rfl) ?_
  show Rn _ 1000000 0 [some (.ref 68), some (.int (jI m)), none, none] [] _ _
  have hn0 := (ok.a (ax_69 nr_1)).1
  have hn1 := (ok.a (ax_69 nr_1)).2
  refine w_step rfl ?_
  refine w_push kc_0 ?_
  refine w_istore (lv' := [some (.ref 68), some (.int (jI m)), some (.int (jI 0)), none]) rfl ?_
  refine w_push kc_0 ?_
  refine w_istore (lv' := [some (.ref 68), some (.int (jI m)), some (.int (jI 0)), some (.int (jI 0))]) rfl ?_
  refine w_goto ?_
  have key1 : ∀ (n1 M1 : Nat) (x : Int) (s : Int), (-2147483648 ≤ x) → (x ≤ 2147483647) → (0 ≤ s) → (s ≤ 12) → 12 - s < (n1 : Int) → 60 * n1 + (1000) ≤ M1 → Rn (bX9_layable (EX FU (d + 1))) M1 1 [some (.ref 68), some (.int (jI m)), some (.int (jI x)), some (.int (jI s))] [] (mk t) (PI (fun z t' => t = t' ∧ (-2147483648 ≤ z) ∧ (z ≤ 2147483647))) := by
    intro n1
    induction n1 with
    | zero => intro M1 x s i1_0 i1_1 i1_2 i1_3 v1 f1; exfalso; omega
    | succ n1 ih1 =>
      intro M1 x s i1_0 i1_1 i1_2 i1_3 v1 f1
      obtain ⟨M1, rfl⟩ : ∃ m, M1 = m + 60 := ⟨M1 - 60, by omega⟩
      refine w_step rfl ?_
      refine w_iload rfl ?_
      refine w_aload rfl ?_
      refine w_getR (g_68_0 _) ?_
      refine w_push kc_1 ?_
      refine w_iald (i := 1) (ai_69 _) (by omega) (by omega) (ax_69 nr_1) ok (fun z1 hz1 hl1 hh1 => ?_)
      refine w_cge (by omega) (fun h2 => ?_) (fun h2 => ?_)
      · skip
        refine w_step rfl ?_
        refine w_iload rfl ?_
        refine w_retI rfl ?_
        exact ⟨rfl, (by omega), (by omega)⟩
      refine w_iload rfl ?_
      refine w_aload rfl ?_
      refine w_iload rfl ?_
      refine w_push kc_3 ?_
      refine w_callV2I (oj_68 _).choose_spec rfl (c_X9_of ok (by omega) (by omega) (by omega) (by omega)) ?_
      rintro z3 t3 ⟨rfl, hp3_0, hp3_1, hp3_2⟩
      have hr3 := of_r3 (s := s) ok (by omega)
      refine w_push kc_12 ?_
      refine w_ceq (by omega) (fun h4 => ?_) (fun h4 => ?_)
      · skip
        refine w_step rfl ?_
        refine w_push kc_1 ?_
        refine w_iload rfl ?_
        refine w_bin (fun z5 hz5 hl5 hh5 => ?_)
        refine w_goto ?_
        refine w_step rfl ?_
        refine w_bin (fun z6 hz6 hl6 hh6 => ?_)
        refine w_istore (lv' := [some (.ref 68), some (.int (jI m)), some (.int (jI z6)), some (.int (jI s))]) rfl ?_
        refine w_iinc (lv' := [some (.ref 68), some (.int (jI m)), some (.int (jI z6)), some (.int (jI (s + 1)))]) kc_1 rfl rfl ?_
        refine w_goto ?_
        exact ih1 _ z6 (s + 1)  (by omega) (by omega) (by omega) (by omega) (by omega) (by omega)
      refine w_aload rfl ?_
      refine w_iload rfl ?_
      refine w_push kc_3 ?_
      refine w_callV2I (oj_68 _).choose_spec rfl (c_X9_of ok (by omega) (by omega) (by omega) (by omega)) ?_
      rintro z7 t7 ⟨rfl, hp7_0, hp7_1, hp7_2⟩
      have hr7 := of_r3 (s := s) ok (by omega)
      refine w_iload rfl ?_
      refine w_cge (by omega) (fun h8 => ?_) (fun h8 => ?_)
      · skip
        refine w_step rfl ?_
        refine w_push kc_0 ?_
        refine w_goto ?_
        refine w_step rfl ?_
        refine w_bin (fun z9 hz9 hl9 hh9 => ?_)
        refine w_istore (lv' := [some (.ref 68), some (.int (jI m)), some (.int (jI z9)), some (.int (jI s))]) rfl ?_
        refine w_iinc (lv' := [some (.ref 68), some (.int (jI m)), some (.int (jI z9)), some (.int (jI (s + 1)))]) kc_1 rfl rfl ?_
        refine w_goto ?_
        exact ih1 _ z9 (s + 1)  (by omega) (by omega) (by omega) (by omega) (by omega) (by omega)
      refine w_goto ?_
      refine w_step rfl ?_
      refine w_push kc_1 ?_
      refine w_iload rfl ?_
      refine w_bin (fun z10 hz10 hl10 hh10 => ?_)
      refine w_goto ?_
      refine w_step rfl ?_
      refine w_bin (fun z11 hz11 hl11 hh11 => ?_)
      refine w_istore (lv' := [some (.ref 68), some (.int (jI m)), some (.int (jI z11)), some (.int (jI s))]) rfl ?_
      refine w_iinc (lv' := [some (.ref 68), some (.int (jI m)), some (.int (jI z11)), some (.int (jI (s + 1)))]) kc_1 rfl rfl ?_
      refine w_goto ?_
      exact ih1 _ z11 (s + 1)  (by omega) (by omega) (by omega) (by omega) (by omega) (by omega)
  exact key1 13 _ 0 0  (by omega) (by omega) (by omega) (by omega) (by omega) (by omega)
set_option maxRecDepth 100000 in
set_option maxHeartbeats 4000000 in
theorem c_X9_change {d : Nat} {t : TS} {x y : Int}  (ok : OK t) (q0 : 0 ≤ x) (q1 : x ≤ 11) (q2 : 0 ≤ y) (q3 : y ≤ 11) : CV (EX FU (d + 2)) 171 [.ref 68, .int (jI x), .int (jI y)] (mk t) (fun t' => OK t' ∧ Fr [(69, 100)] t t' ∧ (Dq t t') ∧ (tA t' 69 0 = tA t 69 0) ∧ (tA t' 69 2 = tA t 69 2)) := by
  refine CV_ent (d := d + 1) (Bk := bX9_change) (nL := 4) rfl rfl rfl (Nat.le_of_ble_eq_true rfl) ?_
  show Rn _ 1000000 0 [some (.ref 68), some (.int (jI x)), some (.int (jI y)), none] [] _ _
  have fr : Fr [(69, 100)] t t := Fr.rf _ _
  have hn0 := (ok.a (ax_69 nr_1)).1
  have hn1 := (ok.a (ax_69 nr_1)).2
  have dq : Dq t t := Dq.rf t
  refine w_step rfl ?_
  refine w_aload rfl ?_
  refine w_iload rfl ?_
  refine w_push kc_3 ?_
  refine w_callV2I (oj_68 _).choose_spec rfl (c_X9_of ok (by omega) (by omega) (by omega) (by omega)) ?_
  rintro z1 t1 ⟨rfl, hp1_0, hp1_1, hp1_2⟩
  have hr1 := of_r3 (s := x) ok (by omega)
  refine w_istore (lv' := [some (.ref 68), some (.int (jI x)), some (.int (jI y)), some (.int (jI z1))]) rfl ?_
  refine w_aload rfl ?_
  refine w_getR (g_68_0 _) ?_
  refine w_push kc_29 ?_
  refine w_push kc_5 ?_
  refine w_iload rfl ?_
  refine w_mul ?_
  refine w_add ?_
  refine w_push kc_3 ?_
  refine w_add ?_
  refine w_aload rfl ?_
  refine w_iload rfl ?_
  refine w_push kc_3 ?_
  refine w_callV2I (oj_68 _).choose_spec rfl (c_X9_of ok (by omega) (by omega) (by omega) (by omega)) ?_
  rintro z2 t2 ⟨rfl, hp2_0, hp2_1, hp2_2⟩
  have hr2 := of_r3 (s := y) ok (by omega)
  refine w_iast (i := (((29 + (5 * x)) + 3)).toNat) (ai_69 _) rfl (by omega) (by omega) (ax_69 (nr_S3 (s := x.toNat) (by omega))) ok (by omega) (fun t3 ht3 ok3 => ?_)
  have fr3 := fr.uA ht3 (by simp)
  have dq3 := dq.u69 ht3 (by omega)
  have w1 := ht3
  refine w_aload rfl ?_
  refine w_getR (g_68_0 _) ?_
  refine w_push kc_29 ?_
  refine w_push kc_5 ?_
  refine w_iload rfl ?_
  refine w_mul ?_
  refine w_add ?_
  refine w_push kc_3 ?_
  refine w_add ?_
  refine w_iload rfl ?_
  refine w_iast (i := (((29 + (5 * y)) + 3)).toNat) (ai_69 _) rfl (by omega) (by omega) (ax_69 (nr_S3 (s := y.toNat) (by omega))) ok3 (by omega) (fun t4 ht4 ok4 => ?_)
  have fr4 := fr3.uA ht4 (by simp)
  have dq4 := dq3.u69 ht4 (by omega)
  have w2 := ht4
  refine w_retV ?_
  exact ⟨ok4, fr4, dq4, (by rw [w2, tA_uA, if_neg (by omega), w1, tA_uA, if_neg (by omega)]), (by rw [w2, tA_uA, if_neg (by omega), w1, tA_uA, if_neg (by omega)])⟩
set_option maxRecDepth 100000 in
set_option maxHeartbeats 4000000 in
theorem c_X9_falls {d : Nat} {t : TS} {p : Int}  (ok : OK t) (q0 : 0 ≤ p) (q1 : p ≤ 11) : CI (EX FU (d + 3)) 173 [.ref 68, .int (jI p)] (mk t) (fun z t' => t = t' ∧ (0 ≤ z) ∧ (z ≤ 12)) := by
  refine CI_ent (d := d + 2) (Bk := bX9_falls) (nL := 6) rfl rfl rfl (Nat.le_of_ble_eq_true rfl) ?_
  show Rn _ 1000000 0 [some (.ref 68), some (.int (jI p)), none, none, none, none] [] _ _
  have hn0 := (ok.a (ax_69 nr_1)).1
  have hn1 := (ok.a (ax_69 nr_1)).2
  refine w_step rfl ?_
  refine w_push kc_0 ?_
  refine w_istore (lv' := [some (.ref 68), some (.int (jI p)), some (.int (jI 0)), none, none, none]) rfl ?_
  refine w_push kc_m1 ?_
  refine w_istore (lv' := [some (.ref 68), some (.int (jI p)), some (.int (jI 0)), some (.int (jI (-1))), none, none]) rfl ?_
  refine w_iload rfl ?_
  refine w_istore (lv' := [some (.ref 68), some (.int (jI p)), some (.int (jI 0)), some (.int (jI (-1))), some (.int (jI p)), none]) rfl ?_
  refine w_goto ?_
  have key1 : ∀ (n1 M1 : Nat) (n : Int) (w : Int) (i : Int) (o5 : Option Int), (p ≤ i) → (i ≤ 12) → (0 ≤ n) → (n ≤ i) → (-1 ≤ w) → (w ≤ 11) → 12 - i < (n1 : Int) → 60 * n1 + (1000) ≤ M1 → Rn (bX9_falls (EX FU (d + 2))) M1 1 [some (.ref 68), some (.int (jI p)), some (.int (jI n)), some (.int (jI w)), some (.int (jI i)), dv o5] [] (mk t) (PI (fun z t' => t = t' ∧ (0 ≤ z) ∧ (z ≤ 12))) := by
    intro n1
    induction n1 with
    | zero => intro M1 n w i o5 i1_0 i1_1 i1_2 i1_3 i1_4 i1_5 v1 f1; exfalso; omega
    | succ n1 ih1 =>
      intro M1 n w i o5 i1_0 i1_1 i1_2 i1_3 i1_4 i1_5 v1 f1
      obtain ⟨M1, rfl⟩ : ∃ m, M1 = m + 60 := ⟨M1 - 60, by omega⟩
      refine w_step rfl ?_
      refine w_iload rfl ?_
      refine w_push kc_12 ?_
      refine w_cge (by omega) (fun h1 => ?_) (fun h1 => ?_)
      · skip
        refine w_step rfl ?_
        refine w_iload rfl ?_
        refine w_retI rfl ?_
        exact ⟨rfl, (by omega), (by omega)⟩
      refine w_aload rfl ?_
      refine w_iload rfl ?_
      refine w_callV1I (oj_68 _).choose_spec rfl (c_X9_holder ok (by omega) (by omega)) ?_
      rintro z2 t2 ⟨rfl, hp2_0, hp2_1⟩
      refine w_istore (lv' := [some (.ref 68), some (.int (jI p)), some (.int (jI n)), some (.int (jI w)), some (.int (jI i)), some (.int (jI z2))]) rfl ?_
      refine w_iload rfl ?_
      refine w_ilt (by omega) (fun h3 => ?_) (fun h3 => ?_)
      · skip
        refine w_step rfl ?_
        refine w_iload rfl ?_
        refine w_retI rfl ?_
        exact ⟨rfl, (by omega), (by omega)⟩
      refine w_iload rfl ?_
      refine w_ilt (by omega) (fun h4 => ?_) (fun h4 => ?_)
      · skip
        refine w_step rfl ?_
        refine w_iload rfl ?_
        refine w_istore (lv' := [some (.ref 68), some (.int (jI p)), some (.int (jI n)), some (.int (jI z2)), some (.int (jI i)), some (.int (jI z2))]) rfl ?_
        refine w_iinc (lv' := [some (.ref 68), some (.int (jI p)), some (.int (jI (n + 1))), some (.int (jI z2)), some (.int (jI i)), some (.int (jI z2))]) kc_1 rfl rfl ?_
        refine w_iinc (lv' := [some (.ref 68), some (.int (jI p)), some (.int (jI (n + 1))), some (.int (jI z2)), some (.int (jI (i + 1))), some (.int (jI z2))]) kc_1 rfl rfl ?_
        refine w_goto ?_
        exact ih1 _ (n + 1) z2 (i + 1) (some z2)  (by omega) (by omega) (by omega) (by omega) (by omega) (by omega) (by omega) (by omega)
      refine w_aload rfl ?_
      refine w_iload rfl ?_
      refine w_callV1I (oj_68 _).choose_spec rfl (c_X9_heavyOf ok (by omega) (by omega)) ?_
      rintro z5 t5 ⟨rfl, hp5_0, hp5_1, hp5_2⟩
      refine w_push kc_2 ?_
      refine w_aload rfl ?_
      refine w_iload rfl ?_
      refine w_callV1I (oj_68 _).choose_spec rfl (c_X9_heavyOf ok (by omega) (by omega)) ?_
      rintro z6 t6 ⟨rfl, hp6_0, hp6_1, hp6_2⟩
      refine w_mul ?_
      refine w_cle (by omega) (fun h7 => ?_) (fun h7 => ?_)
      · skip
        refine w_step rfl ?_
        refine w_iload rfl ?_
        refine w_istore (lv' := [some (.ref 68), some (.int (jI p)), some (.int (jI n)), some (.int (jI z2)), some (.int (jI i)), some (.int (jI z2))]) rfl ?_
        refine w_iinc (lv' := [some (.ref 68), some (.int (jI p)), some (.int (jI (n + 1))), some (.int (jI z2)), some (.int (jI i)), some (.int (jI z2))]) kc_1 rfl rfl ?_
        refine w_iinc (lv' := [some (.ref 68), some (.int (jI p)), some (.int (jI (n + 1))), some (.int (jI z2)), some (.int (jI (i + 1))), some (.int (jI z2))]) kc_1 rfl rfl ?_
        refine w_goto ?_
        exact ih1 _ (n + 1) z2 (i + 1) (some z2)  (by omega) (by omega) (by omega) (by omega) (by omega) (by omega) (by omega) (by omega)
      refine w_goto ?_
      refine w_step rfl ?_
      refine w_iload rfl ?_
      refine w_retI rfl ?_
      exact ⟨rfl, (by omega), (by omega)⟩
  exact key1 13 _ 0 (-1) p none  (by omega) (by omega) (by omega) (by omega) (by omega) (by omega) (by omega) (by omega)
set_option maxRecDepth 100000 in
set_option maxHeartbeats 4000000 in
theorem c_X9_thinks {d : Nat} {t : TS}  (ok : OK t) : CV (EX FU (d + 1)) 176 [.ref 68] (mk t) (fun t' => OK t' ∧ Fr [(74, 100)] t t' ∧ (∀ i : Nat, i < 89 → tA t' 74 i = tA t 69 i)) := by
  refine CV_ent (d := d + 0) (Bk := bX9_thinks) (nL := 2) rfl rfl rfl (Nat.le_of_ble_eq_true rfl) ?_
  show Rn _ 1000000 0 [some (.ref 68), none] [] _ _
  have fr : Fr [(74, 100)] t t := Fr.rf _ _
  have hn0 := (ok.a (ax_69 nr_1)).1
  have hn1 := (ok.a (ax_69 nr_1)).2
  refine w_step rfl ?_
  refine w_push kc_0 ?_
  refine w_istore (lv' := [some (.ref 68), some (.int (jI 0))]) rfl ?_
  refine w_goto ?_
  have key1 : ∀ (n1 M1 : Nat) (i : Int) (t1 : TS), OK t1 → Fr [(74, 100)] t t1 → (0 ≤ i) → (i ≤ 89) → (∀ m : Nat, (m : Int) < i → tA t1 74 m = tA t 69 m) → 89 - i < (n1 : Int) → 60 * n1 + (1000) ≤ M1 → Rn (bX9_thinks (EX FU (d + 0))) M1 1 [some (.ref 68), some (.int (jI i))] [] (mk t1) (PV (fun t' => OK t' ∧ Fr [(74, 100)] t t' ∧ (∀ i : Nat, i < 89 → tA t' 74 i = tA t 69 i))) := by
    intro n1
    induction n1 with
    | zero => intro M1 i t1 ok1 fr1 i1_0 i1_1 i1_2 v1 f1; exfalso; omega
    | succ n1 ih1 =>
      intro M1 i t1 ok1 fr1 i1_0 i1_1 i1_2 v1 f1
      obtain ⟨M1, rfl⟩ : ∃ m, M1 = m + 60 := ⟨M1 - 60, by omega⟩
      have ea : ∀ m, tA t1 69 m = tA t 69 m := fun m => fr1.2.1 69 (by simp) m
      refine w_step rfl ?_
      refine w_iload rfl ?_
      refine w_push kc_89 ?_
      refine w_cge (by omega) (fun h2 => ?_) (fun h2 => ?_)
      · skip
        refine w_step rfl ?_
        refine w_retV ?_
        exact ⟨ok1, fr1, (fun i hi => i1_2 i (by omega))⟩
      refine w_aload rfl ?_
      refine w_getR (g_68_7 _) ?_
      refine w_iload rfl ?_
      refine w_aload rfl ?_
      refine w_getR (g_68_0 _) ?_
      refine w_iload rfl ?_
      refine w_iald (i := (i).toNat) (ai_69 _) (by omega) (by omega) (ae_69 _) ok1 (fun z3 hz3 hl3 hh3 => ?_)
      have hj3 := nr_jr (i).toNat
      refine w_iast (i := (i).toNat) (ai_74 _) rfl (by omega) (by omega) (ae_74 _) ok1 (by omega) (fun t4 ht4 ok4 => ?_)
      have fr4 := fr1.uA ht4 (by simp)
      refine w_iinc (lv' := [some (.ref 68), some (.int (jI (i + 1)))]) kc_1 rfl rfl ?_
      refine w_goto ?_
      exact ih1 _ (i + 1) t4 ok4 fr4 (by omega) (by omega) (by intro m hm; rw [ht4, tA_uA]; split <;> first | exact i1_2 m (by omega) | (rename_i q; rw [q.2, hz3]; exact ea _)) (by omega) (by omega)
  exact key1 90 _ 0 t ok fr (by omega) (by omega) (by intro m hm; omega) (by omega) (by omega)
set_option maxRecDepth 100000 in
set_option maxHeartbeats 4000000 in
theorem c_X9_putsBack {d : Nat} {t : TS}  (ok : OK t) : CV (EX FU (d + 1)) 177 [.ref 68] (mk t) (fun t' => OK t' ∧ Fr [(69, 100), (68, 4)] t t' ∧ (∀ i : Nat, i < 89 → tA t' 69 i = tA t 74 i) ∧ (∀ i : Nat, 89 ≤ i → tA t' 69 i = tA t 69 i)) := by
  refine CV_ent (d := d + 0) (Bk := bX9_putsBack) (nL := 2) rfl rfl rfl (Nat.le_of_ble_eq_true rfl) ?_
  show Rn _ 1000000 0 [some (.ref 68), none] [] _ _
  have fr : Fr [(69, 100), (68, 4)] t t := Fr.rf _ _
  have hn0 := (ok.a (ax_69 nr_1)).1
  have hn1 := (ok.a (ax_69 nr_1)).2
  refine w_step rfl ?_
  refine w_push kc_0 ?_
  refine w_istore (lv' := [some (.ref 68), some (.int (jI 0))]) rfl ?_
  refine w_goto ?_
  have key1 : ∀ (n1 M1 : Nat) (i : Int) (t1 : TS), OK t1 → Fr [(69, 100), (68, 4)] t t1 → (0 ≤ i) → (i ≤ 89) → (∀ m : Nat, (m : Int) < i → tA t1 69 m = tA t 74 m) → (∀ m : Nat, 89 ≤ m → tA t1 69 m = tA t 69 m) → 89 - i < (n1 : Int) → 60 * n1 + (1000) ≤ M1 → Rn (bX9_putsBack (EX FU (d + 0))) M1 1 [some (.ref 68), some (.int (jI i))] [] (mk t1) (PV (fun t' => OK t' ∧ Fr [(69, 100), (68, 4)] t t' ∧ (∀ i : Nat, i < 89 → tA t' 69 i = tA t 74 i) ∧ (∀ i : Nat, 89 ≤ i → tA t' 69 i = tA t 69 i))) := by
    intro n1
    induction n1 with
    | zero => intro M1 i t1 ok1 fr1 i1_0 i1_1 i1_2 i1_3 v1 f1; exfalso; omega
    | succ n1 ih1 =>
      intro M1 i t1 ok1 fr1 i1_0 i1_1 i1_2 i1_3 v1 f1
      obtain ⟨M1, rfl⟩ : ∃ m, M1 = m + 60 := ⟨M1 - 60, by omega⟩
      have ea : ∀ m, tA t1 74 m = tA t 74 m := fun m => fr1.2.1 74 (by simp) m
      refine w_step rfl ?_
      refine w_iload rfl ?_
      refine w_push kc_89 ?_
      refine w_cge (by omega) (fun h2 => ?_) (fun h2 => ?_)
      · skip
        refine w_step rfl ?_
        refine w_aload rfl ?_
        refine w_push kc_m1 ?_
        refine w_putI (p_68_4 _) fe_68_4 ok1 (by omega) (fun t3 ht3 ok3 => ?_)
        have fr3 := fr1.uI ht3 (by simp)
        have eK := ht3
        refine w_retV ?_
        exact ⟨ok3, fr3, (by intro i hi; rw [eK, tA_uI]; exact i1_2 i (by omega)), (by intro i hi; rw [eK, tA_uI]; exact i1_3 i hi)⟩
      refine w_aload rfl ?_
      refine w_getR (g_68_0 _) ?_
      refine w_iload rfl ?_
      refine w_aload rfl ?_
      refine w_getR (g_68_7 _) ?_
      refine w_iload rfl ?_
      refine w_iald (i := (i).toNat) (ai_74 _) (by omega) (by omega) (ae_74 _) ok1 (fun z4 hz4 hl4 hh4 => ?_)
      have hj4 := nr_jr (i).toNat
      refine w_iast (i := (i).toNat) (ai_69 _) rfl (by omega) (by omega) (ae_69 _) ok1 (by omega) (fun t5 ht5 ok5 => ?_)
      have fr5 := fr1.uA ht5 (by simp)
      refine w_iinc (lv' := [some (.ref 68), some (.int (jI (i + 1)))]) kc_1 rfl rfl ?_
      refine w_goto ?_
      exact ih1 _ (i + 1) t5 ok5 fr5 (by omega) (by omega) (by intro m hm; rw [ht5, tA_uA]; split <;> first | exact i1_2 m (by omega) | (rename_i q; rw [q.2, hz4]; exact ea _)) (by intro m hm; rw [ht5, tA_uA, if_neg (by omega)]; exact i1_3 m hm) (by omega) (by omega)
  exact key1 90 _ 0 t ok fr (by omega) (by omega) (by intro m hm; omega) (fun _ _ => rfl) (by omega) (by omega)
set_option maxRecDepth 100000 in
set_option maxHeartbeats 4000000 in
theorem c_X9_isLaid {d : Nat} {t : TS}  (ok : OK t) : CI (EX FU (d + 3)) 179 [.ref 68] (mk t) (fun z t' => t = t' ∧ (0 ≤ z) ∧ (z ≤ 1)) := by
  refine CI_ent (d := d + 2) (Bk := bX9_isLaid) (nL := 2) rfl rfl rfl (Nat.le_of_ble_eq_true rfl) ?_
  show Rn _ 1000000 0 [some (.ref 68), none] [] _ _
  have hn0 := (ok.a (ax_69 nr_1)).1
  have hn1 := (ok.a (ax_69 nr_1)).2
  refine w_step rfl ?_
  refine w_aload rfl ?_
  refine w_callV0I (oj_68 _).choose_spec rfl (c_X9_manyLaid ok) ?_
  rintro z1 t1 ⟨rfl, hp1_0, hp1_1⟩
  refine w_istore (lv' := [some (.ref 68), some (.int (jI z1))]) rfl ?_
  refine w_iload rfl ?_
  refine w_push kc_12 ?_
  refine w_ceq (by omega) (fun h2 => ?_) (fun h2 => ?_)
  · skip
    refine w_step rfl ?_
    refine w_push kc_1 ?_
    refine w_goto ?_
    refine w_step rfl ?_
    refine w_retI rfl ?_
    exact ⟨rfl, (by omega), (by omega)⟩
  refine w_iload rfl ?_
  refine w_aload rfl ?_
  refine w_getR (g_68_0 _) ?_
  refine w_push kc_1 ?_
  refine w_iald (i := 1) (ai_69 _) (by omega) (by omega) (ax_69 nr_1) ok (fun z3 hz3 hl3 hh3 => ?_)
  refine w_cne (by omega) (fun h4 => ?_) (fun h4 => ?_)
  · skip
    refine w_step rfl ?_
    refine w_push kc_0 ?_
    refine w_goto ?_
    refine w_step rfl ?_
    refine w_retI rfl ?_
    exact ⟨rfl, (by omega), (by omega)⟩
  refine w_goto ?_
  refine w_step rfl ?_
  refine w_push kc_1 ?_
  refine w_goto ?_
  refine w_step rfl ?_
  refine w_retI rfl ?_
  exact ⟨rfl, (by omega), (by omega)⟩
set_option maxRecDepth 100000 in
set_option maxHeartbeats 4000000 in
theorem c_X9_darkAt {d : Nat} {t : TS} {c : Int}  (ok : OK t) (q0 : WF t 69) (q1 : 0 ≤ c) (q2 : c ≤ 23) : CI (EX FU (d + 4)) 182 [.ref 68, .int (jI c)] (mk t) (fun z t' => OK t' ∧ Fr [(81, 100), (82, 100)] t t' ∧ (0 ≤ z) ∧ (z ≤ 99)) := by
  refine CI_ent (d := d + 3) (Bk := bX9_darkAt) (nL := 4) rfl rfl rfl (Nat.le_of_ble_eq_true rfl) ?_
  show Rn _ 1000000 0 [some (.ref 68), some (.int (jI c)), none, none] [] _ _
  have fr : Fr [(81, 100), (82, 100)] t t := Fr.rf _ _
  have hn0 := (ok.a (ax_69 nr_1)).1
  have hn1 := (ok.a (ax_69 nr_1)).2
  refine w_step rfl ?_
  refine w_iload rfl ?_
  refine w_push kc_2 ?_
  refine w_div (by omega) ?_
  refine w_istore (lv' := [some (.ref 68), some (.int (jI c)), some (.int (jI (c / 2))), none]) rfl ?_
  refine w_aload rfl ?_
  refine w_iload rfl ?_
  refine w_callV1I (oj_68 _).choose_spec rfl (c_X9_holder ok (by omega) (by omega)) ?_
  rintro z1 t1 ⟨rfl, hp1_0, hp1_1⟩
  refine w_istore (lv' := [some (.ref 68), some (.int (jI c)), some (.int (jI (c / 2))), some (.int (jI z1))]) rfl ?_
  refine w_iload rfl ?_
  refine w_ige (by omega) (fun h2 => ?_) (fun h2 => ?_)
  · skip
    refine w_step rfl ?_
    refine w_aload rfl ?_
    refine w_iload rfl ?_
    refine w_aload rfl ?_
    refine w_iload rfl ?_
    refine w_iload rfl ?_
    refine w_push kc_2 ?_
    refine w_rem (by omega) ?_
    refine w_aload rfl ?_
    refine w_iload rfl ?_
    refine w_push kc_4 ?_
    refine w_callV2I (oj_68 _).choose_spec rfl (c_X9_of ok (by omega) (by omega) (by omega) (by omega)) ?_
    rintro z3 t3 ⟨rfl, hp3_0, hp3_1, hp3_2⟩
    have hr3 := of_r4 (s := z1) ok (by omega)
    refine w_callV3I (oj_68 _).choose_spec rfl (c_X9_spotsOf ok (by omega) (by omega) (by omega) (by omega) (by omega) (by omega)) ?_
    rintro z4 t4 ⟨rfl, hp4_0, hp4_1⟩
    refine w_iload rfl ?_
    refine w_push kc_3 ?_
    refine w_div (by omega) ?_
    refine w_callV3I (oj_68 _).choose_spec rfl (c_X9_darkOf ok q0 (by omega) (by omega) (by omega) (by omega) (by omega) (by omega)) ?_
    rintro z5 t5 ⟨ok5, fq5, hp5_0, hp5_1⟩
    have fr5 := fr.then fq5 (by simp)
    have wf5 := q0.fr fq5 (by simp)
    refine w_goto ?_
    refine w_step rfl ?_
    refine w_retI rfl ?_
    exact ⟨ok5, fr5, (by omega), (by omega)⟩
  refine w_push kc_0 ?_
  refine w_goto ?_
  refine w_step rfl ?_
  refine w_retI rfl ?_
  exact ⟨ok, fr, (by omega), (by omega)⟩
set_option maxRecDepth 100000 in
set_option maxHeartbeats 4000000 in
theorem c_X9_offBy {d : Nat} {t : TS} {k r : Int}  (ok : OK t) (q0 : WF t 69) (q1 : 0 ≤ k) (q2 : k ≤ 3) (q3 : 0 ≤ r) (q4 : r ≤ 3) : CL (EX FU (d + 5)) 183 [.ref 68, .int (jI k), .int (jI r)] (mk t) (fun z t' => OK t' ∧ Fr [(81, 100), (82, 100)] t t') := by
  refine CL_ent (d := d + 4) (Bk := bX9_offBy) (nL := 9) rfl rfl rfl (Nat.le_of_ble_eq_true rfl) ?_
  show Rn _ 1000000 0 [some (.ref 68), some (.int (jI k)), some (.int (jI r)), none, none, none, none, none, none] [] _ _
  have fr : Fr [(81, 100), (82, 100)] t t := Fr.rf _ _
  have hn0 := (ok.a (ax_69 nr_1)).1
  have hn1 := (ok.a (ax_69 nr_1)).2
  refine w_step rfl ?_
  refine w_pushV ?_
  refine w_lstore (lv' := [some (.ref 68), some (.int (jI k)), some (.int (jI r)), some (.long 0), none, none, none, none, none]) rfl ?_
  refine w_push kc_0 ?_
  refine w_istore (lv' := [some (.ref 68), some (.int (jI k)), some (.int (jI r)), some (.long 0), none, some (.int (jI 0)), none, none, none]) rfl ?_
  refine w_goto ?_
  have key1 : ∀ (n1 M1 : Nat) (sum : Int64) (i : Int) (o6 : Option Int) (o7 : Option Int64) (t1 : TS), OK t1 → Fr [(81, 100), (82, 100)] t t1 → WF t1 69 → (0 ≤ i) → (i ≤ 24) → 24 - i < (n1 : Int) → 60 * n1 + (1000) ≤ M1 → Rn (bX9_offBy (EX FU (d + 4))) M1 1 [some (.ref 68), some (.int (jI k)), some (.int (jI r)), some (.long sum), none, some (.int (jI i)), dv o6, dl o7, none] [] (mk t1) (PL (fun z t' => OK t' ∧ Fr [(81, 100), (82, 100)] t t')) := by
    intro n1
    induction n1 with
    | zero => intro M1 sum i o6 o7 t1 ok1 fr1 wf1 i1_0 i1_1 v1 f1; exfalso; omega
    | succ n1 ih1 =>
      intro M1 sum i o6 o7 t1 ok1 fr1 wf1 i1_0 i1_1 v1 f1
      obtain ⟨M1, rfl⟩ : ∃ m, M1 = m + 60 := ⟨M1 - 60, by omega⟩
      refine w_step rfl ?_
      refine w_iload rfl ?_
      refine w_aload rfl ?_
      refine w_getR (g_68_27 _) ?_
      refine w_iload rfl ?_
      refine w_iald (i := (k).toNat) (ai_84 _) (by omega) (by omega) (ae_84 _) ok1 (fun z2 hz2 hl2 hh2 => ?_)
      refine w_cge (by omega) (fun h3 => ?_) (fun h3 => ?_)
      · skip
        refine w_step rfl ?_
        refine w_lload rfl ?_
        refine w_retL rfl ?_
        exact ⟨ok1, fr1⟩
      refine w_aload rfl ?_
      refine w_getR (g_68_28 _) ?_
      refine w_push kc_24 ?_
      refine w_iload rfl ?_
      refine w_mul ?_
      refine w_iload rfl ?_
      refine w_add ?_
      refine w_iald (i := (((24 * k) + i)).toNat) (ai_85 _) (by omega) (by omega) (ae_85 _) ok1 (fun z4 hz4 hl4 hh4 => ?_)
      refine w_istore (lv' := [some (.ref 68), some (.int (jI k)), some (.int (jI r)), some (.long sum), none, some (.int (jI i)), some (.int (jI z4)), dl o7, none]) rfl ?_
      refine w_iload rfl ?_
      refine w_i2l (fun z5 => ?_)
      refine w_iload rfl ?_
      refine w_push kc_6 ?_
      refine w_cge (by omega) (fun h6 => ?_) (fun h6 => ?_)
      · skip
        refine w_step rfl ?_
        refine w_push kc_0 ?_
        refine w_goto ?_
        refine w_step rfl ?_
        refine w_i2l (fun z7 => ?_)
        refine w_lbin (fun z8 => ?_)
        refine w_lstore (lv' := [some (.ref 68), some (.int (jI k)), some (.int (jI r)), some (.long sum), none, some (.int (jI i)), some (.int (jI z4)), some (.long z8), none]) rfl ?_
        refine w_lload rfl ?_
        refine w_iload rfl ?_
        refine w_push kc_m1000000005 ?_
        refine w_cne (by omega) (fun h9 => ?_) (fun h9 => ?_)
        · skip
          refine w_step rfl ?_
          refine w_lload rfl ?_
          refine w_pushV ?_
          refine w_lcmp (fun z10 hl10 hh10 => ?_)
          refine w_ige (by omega) (fun h11 => ?_) (fun h11 => ?_)
          · skip
            refine w_step rfl ?_
            refine w_lload rfl ?_
            refine w_goto ?_
            refine w_step rfl ?_
            refine w_lbin (fun z12 => ?_)
            refine w_lstore (lv' := [some (.ref 68), some (.int (jI k)), some (.int (jI r)), some (.long z12), none, some (.int (jI i)), some (.int (jI z4)), some (.long z8), none]) rfl ?_
            refine w_iinc (lv' := [some (.ref 68), some (.int (jI k)), some (.int (jI r)), some (.long z12), none, some (.int (jI (i + 1))), some (.int (jI z4)), some (.long z8), none]) kc_1 rfl rfl ?_
            refine w_goto ?_
            exact ih1 _ z12 (i + 1) (some z4) (some z8) t1 ok1 fr1 wf1 (by omega) (by omega) (by omega) (by omega)
          refine w_lload rfl ?_
          refine w_lneg (fun z13 => ?_)
          refine w_goto ?_
          refine w_step rfl ?_
          refine w_lbin (fun z14 => ?_)
          refine w_lstore (lv' := [some (.ref 68), some (.int (jI k)), some (.int (jI r)), some (.long z14), none, some (.int (jI i)), some (.int (jI z4)), some (.long z8), none]) rfl ?_
          refine w_iinc (lv' := [some (.ref 68), some (.int (jI k)), some (.int (jI r)), some (.long z14), none, some (.int (jI (i + 1))), some (.int (jI z4)), some (.long z8), none]) kc_1 rfl rfl ?_
          refine w_goto ?_
          exact ih1 _ z14 (i + 1) (some z4) (some z8) t1 ok1 fr1 wf1 (by omega) (by omega) (by omega) (by omega)
        refine w_pushV ?_
        refine w_goto ?_
        refine w_step rfl ?_
        refine w_lbin (fun z15 => ?_)
        refine w_lstore (lv' := [some (.ref 68), some (.int (jI k)), some (.int (jI r)), some (.long z15), none, some (.int (jI i)), some (.int (jI z4)), some (.long z8), none]) rfl ?_
        refine w_iinc (lv' := [some (.ref 68), some (.int (jI k)), some (.int (jI r)), some (.long z15), none, some (.int (jI (i + 1))), some (.int (jI z4)), some (.long z8), none]) kc_1 rfl rfl ?_
        refine w_goto ?_
        exact ih1 _ z15 (i + 1) (some z4) (some z8) t1 ok1 fr1 wf1 (by omega) (by omega) (by omega) (by omega)
      refine w_aload rfl ?_
      refine w_push kc_6 ?_
      refine w_iload rfl ?_
      refine w_mul ?_
      refine w_iload rfl ?_
      refine w_add ?_
      refine w_callV1I (oj_68 _).choose_spec rfl (c_X9_darkAt ok1 wf1 (by omega) (by omega)) ?_
      rintro z16 t16 ⟨ok16, fq16, hp16_0, hp16_1⟩
      have fr16 := fr1.then fq16 (by simp)
      have wf16 := wf1.fr fq16 (by simp)
      refine w_goto ?_
      refine w_step rfl ?_
      refine w_i2l (fun z17 => ?_)
      refine w_lbin (fun z18 => ?_)
      refine w_lstore (lv' := [some (.ref 68), some (.int (jI k)), some (.int (jI r)), some (.long sum), none, some (.int (jI i)), some (.int (jI z4)), some (.long z18), none]) rfl ?_
      refine w_lload rfl ?_
      refine w_iload rfl ?_
      refine w_push kc_m1000000005 ?_
      refine w_cne (by omega) (fun h19 => ?_) (fun h19 => ?_)
      · skip
        refine w_step rfl ?_
        refine w_lload rfl ?_
        refine w_pushV ?_
        refine w_lcmp (fun z20 hl20 hh20 => ?_)
        refine w_ige (by omega) (fun h21 => ?_) (fun h21 => ?_)
        · skip
          refine w_step rfl ?_
          refine w_lload rfl ?_
          refine w_goto ?_
          refine w_step rfl ?_
          refine w_lbin (fun z22 => ?_)
          refine w_lstore (lv' := [some (.ref 68), some (.int (jI k)), some (.int (jI r)), some (.long z22), none, some (.int (jI i)), some (.int (jI z4)), some (.long z18), none]) rfl ?_
          refine w_iinc (lv' := [some (.ref 68), some (.int (jI k)), some (.int (jI r)), some (.long z22), none, some (.int (jI (i + 1))), some (.int (jI z4)), some (.long z18), none]) kc_1 rfl rfl ?_
          refine w_goto ?_
          exact ih1 _ z22 (i + 1) (some z4) (some z18) t16 ok16 fr16 wf16 (by omega) (by omega) (by omega) (by omega)
        refine w_lload rfl ?_
        refine w_lneg (fun z23 => ?_)
        refine w_goto ?_
        refine w_step rfl ?_
        refine w_lbin (fun z24 => ?_)
        refine w_lstore (lv' := [some (.ref 68), some (.int (jI k)), some (.int (jI r)), some (.long z24), none, some (.int (jI i)), some (.int (jI z4)), some (.long z18), none]) rfl ?_
        refine w_iinc (lv' := [some (.ref 68), some (.int (jI k)), some (.int (jI r)), some (.long z24), none, some (.int (jI (i + 1))), some (.int (jI z4)), some (.long z18), none]) kc_1 rfl rfl ?_
        refine w_goto ?_
        exact ih1 _ z24 (i + 1) (some z4) (some z18) t16 ok16 fr16 wf16 (by omega) (by omega) (by omega) (by omega)
      refine w_pushV ?_
      refine w_goto ?_
      refine w_step rfl ?_
      refine w_lbin (fun z25 => ?_)
      refine w_lstore (lv' := [some (.ref 68), some (.int (jI k)), some (.int (jI r)), some (.long z25), none, some (.int (jI i)), some (.int (jI z4)), some (.long z18), none]) rfl ?_
      refine w_iinc (lv' := [some (.ref 68), some (.int (jI k)), some (.int (jI r)), some (.long z25), none, some (.int (jI (i + 1))), some (.int (jI z4)), some (.long z18), none]) kc_1 rfl rfl ?_
      refine w_goto ?_
      exact ih1 _ z25 (i + 1) (some z4) (some z18) t16 ok16 fr16 wf16 (by omega) (by omega) (by omega) (by omega)
  exact key1 25 _ 0 0 none none t ok fr q0 (by omega) (by omega) (by omega) (by omega)
set_option maxRecDepth 100000 in
set_option maxHeartbeats 4000000 in
theorem c_X9_best {d : Nat} {t : TS} {m w : Int}  (ok : OK t) (q0 : WF t 69) (q1 : -2147483648 ≤ m) (q2 : m ≤ 2147483647) (q3 : -2147483648 ≤ w) (q4 : w ≤ 2147483647) : CI (EX FU (d + 6)) 169 [.ref 68, .int (jI m), .int (jI w)] (mk t) (fun z t' => OK t' ∧ Fr [(81, 100), (82, 100), (72, 100), (73, 100)] t t' ∧ (-2147483648 ≤ z) ∧ (z ≤ 2147483647)) := by
  refine CI_ent (d := d + 5) (Bk := bX9_best) (nL := 13) rfl rfl rfl (Nat.le_of_ble_eq_true rfl) ?_
  show Rn _ 1000000 0 [some (.ref 68), some (.int (jI m)), some (.int (jI w)), none, none, none, none, none, none, none, none, none, none] [] _ _
  have fr : Fr [(81, 100), (82, 100), (72, 100), (73, 100)] t t := Fr.rf _ _
  have hn0 := (ok.a (ax_69 nr_1)).1
  have hn1 := (ok.a (ax_69 nr_1)).2
  obtain ⟨BIG, hBIG⟩ : ∃ q : Nat, q = 800000 := ⟨_, rfl⟩
  refine w_step rfl ?_
  refine w_iload rfl ?_
  refine w_push kc_1 ?_
  refine w_push kc_6 ?_
  refine w_callS3I rfl (c_X9_in ok (by omega) (by omega) (by omega) (by omega) (by omega) (by omega)) ?_
  rintro z1 t1 ⟨rfl, hp1_0⟩
  rcases hp1_0 with ⟨rfl, hp1_0⟩ | ⟨rfl, hp1_0⟩
  · skip
    refine w_ieq (by omega) (fun _ => ?_) (fun h => absurd (by omega) h)
    refine w_step rfl ?_
    refine w_push kc_m1000000001 ?_
    refine w_retI rfl ?_
    exact ⟨ok, fr, (by omega), (by omega)⟩
  refine w_ieq (by omega) (fun h => absurd h (by omega)) (fun _ => ?_)
  refine w_iload rfl ?_
  refine w_push kc_0 ?_
  refine w_push kc_1 ?_
  refine w_callS3I rfl (c_X9_in ok (by omega) (by omega) (by omega) (by omega) (by omega) (by omega)) ?_
  rintro z2 t2 ⟨rfl, hp2_0⟩
  rcases hp2_0 with ⟨rfl, hp2_0⟩ | ⟨rfl, hp2_0⟩
  · skip
    refine w_ine (by omega) (fun h => absurd h (by omega)) (fun _ => ?_)
    refine w_goto ?_
    refine w_step rfl ?_
    refine w_push kc_m1000000001 ?_
    refine w_retI rfl ?_
    exact ⟨ok, fr, (by omega), (by omega)⟩
  refine w_ine (by omega) (fun _ => ?_) (fun h => absurd (by omega) h)
  refine w_step rfl ?_
  refine w_aload rfl ?_
  refine w_iload rfl ?_
  refine w_callV1I (oj_68 _).choose_spec rfl (c_X9_layable ok (by omega) (by omega)) ?_
  rintro z3 t3 ⟨rfl, hp3_0, hp3_1⟩
  refine w_istore (lv' := [some (.ref 68), some (.int (jI m)), some (.int (jI w)), some (.int (jI z3)), none, none, none, none, none, none, none, none, none]) rfl ?_
  refine w_push kc_0 ?_
  refine w_istore (lv' := [some (.ref 68), some (.int (jI m)), some (.int (jI w)), some (.int (jI z3)), some (.int (jI 0)), none, none, none, none, none, none, none, none]) rfl ?_
  refine w_goto ?_
  have key3 : ∀ (n3 M3 : Nat) (s : Int) (o5 : Option Int) (t4 : TS), OK t4 → Fr [(81, 100), (82, 100), (72, 100), (73, 100)] t t4 → WF t4 69 → (0 ≤ s) → (s ≤ 12) → 12 - s < (n3 : Int) → 200 * n3 + (BIG) ≤ M3 → Rn (bX9_best (EX FU (d + 5))) M3 3 [some (.ref 68), some (.int (jI m)), some (.int (jI w)), some (.int (jI z3)), some (.int (jI s)), dv o5, none, none, none, none, none, none, none] [] (mk t4) (PI (fun z t' => OK t' ∧ Fr [(81, 100), (82, 100), (72, 100), (73, 100)] t t' ∧ (-2147483648 ≤ z) ∧ (z ≤ 2147483647))) := by
    intro n3
    induction n3 with
    | zero => intro M3 s o5 t4 ok4 fr4 wf4 i3_0 i3_1 v3 f3; exfalso; omega
    | succ n3 ih3 =>
      intro M3 s o5 t4 ok4 fr4 wf4 i3_0 i3_1 v3 f3
      obtain ⟨M3, rfl⟩ : ∃ m, M3 = m + 200 := ⟨M3 - 200, by omega⟩
      refine w_step rfl ?_
      refine w_iload rfl ?_
      refine w_aload rfl ?_
      refine w_getR (g_68_0 _) ?_
      refine w_push kc_1 ?_
      refine w_iald (i := 1) (ai_69 _) (by omega) (by omega) (ax_69 nr_1) ok4 (fun z5 hz5 hl5 hh5 => ?_)
      refine w_cge (by omega) (fun h6 => ?_) (fun h6 => ?_)
      · skip
        refine w_step rfl ?_
        refine w_push kc_1 ?_
        refine w_aload rfl ?_
        refine w_getR (g_68_0 _) ?_
        refine w_push kc_1 ?_
        refine w_iald (i := 1) (ai_69 _) (by omega) (by omega) (ax_69 nr_1) ok4 (fun z7 hz7 hl7 hh7 => ?_)
        have eN : z7 = tA t 69 1 := by rw [hz7, fr4.2.1 69 (by simp)]
        refine w_bin (fun z8 hz8 hl8 hh8 => ?_)
        have hu8 := shl_r (by omega) hz8
        have eE := hz8
        rw [eN] at eE
        refine w_istore (lv' := [some (.ref 68), some (.int (jI m)), some (.int (jI w)), some (.int (jI z3)), some (.int (jI z8)), dv o5, none, none, none, none, none, none, none]) rfl ?_
        refine w_push kc_0 ?_
        refine w_istore (lv' := [some (.ref 68), some (.int (jI m)), some (.int (jI w)), some (.int (jI z3)), some (.int (jI z8)), some (.int (jI 0)), none, none, none, none, none, none, none]) rfl ?_
        refine w_goto ?_
        have key7 : ∀ (n7 M7 : Nat) (e : Int) (t9 : TS), OK t9 → Fr [(81, 100), (82, 100), (72, 100), (73, 100)] t t9 → WF t9 69 → (0 ≤ e) → (e ≤ 4096) → 4096 - e < (n7 : Int) → 5 * n7 + (700000) ≤ M7 → Rn (bX9_best (EX FU (d + 5))) M7 7 [some (.ref 68), some (.int (jI m)), some (.int (jI w)), some (.int (jI z3)), some (.int (jI z8)), some (.int (jI e)), none, none, none, none, none, none, none] [] (mk t9) (PI (fun z t' => OK t' ∧ Fr [(81, 100), (82, 100), (72, 100), (73, 100)] t t' ∧ (-2147483648 ≤ z) ∧ (z ≤ 2147483647))) := by
          intro n7
          induction n7 with
          | zero => intro M7 e t9 ok9 fr9 wf9 i7_0 i7_1 v7 f7; exfalso; omega
          | succ n7 ih7 =>
            intro M7 e t9 ok9 fr9 wf9 i7_0 i7_1 v7 f7
            obtain ⟨M7, rfl⟩ : ∃ m, M7 = m + 5 := ⟨M7 - 5, by omega⟩
            refine w_step rfl ?_
            refine w_iload rfl ?_
            refine w_iload rfl ?_
            refine w_cge (by omega) (fun h10 => ?_) (fun h10 => ?_)
            · skip
              refine w_step rfl ?_
              refine w_push kc_m1 ?_
              refine w_istore (lv' := [some (.ref 68), some (.int (jI m)), some (.int (jI w)), some (.int (jI z3)), some (.int (jI z8)), some (.int (jI (-1))), none, none, none, none, none, none, none]) rfl ?_
              refine w_push kc_0 ?_
              refine w_istore (lv' := [some (.ref 68), some (.int (jI m)), some (.int (jI w)), some (.int (jI z3)), some (.int (jI z8)), some (.int (jI (-1))), some (.int (jI 0)), none, none, none, none, none, none]) rfl ?_
              refine w_push kc_0 ?_
              refine w_istore (lv' := [some (.ref 68), some (.int (jI m)), some (.int (jI w)), some (.int (jI z3)), some (.int (jI z8)), some (.int (jI (-1))), some (.int (jI 0)), some (.int (jI 0)), none, none, none, none, none]) rfl ?_
              refine w_goto ?_
              have key11 : ∀ (n11 M11 : Nat) (best : Int) (least : Int) (e : Int) (o8 : Option Int) (o9 : Option Int) (o10 : Option Int) (o11 : Option Int) (o12 : Option Int) (t11 : TS), OK t11 → Fr [(81, 100), (82, 100), (72, 100), (73, 100)] t t11 → WF t11 69 → (-1 ≤ best) → (best ≤ 11) → (-2147483648 ≤ least) → (least ≤ 2147483647) → (0 ≤ e) → (e ≤ 4096) → 4096 - e < (n11 : Int) → 150 * n11 + (1000) ≤ M11 → Rn (bX9_best (EX FU (d + 5))) M11 11 [some (.ref 68), some (.int (jI m)), some (.int (jI w)), some (.int (jI z3)), some (.int (jI z8)), some (.int (jI best)), some (.int (jI least)), some (.int (jI e)), dv o8, dv o9, dv o10, dv o11, dv o12] [] (mk t11) (PI (fun z t' => OK t' ∧ Fr [(81, 100), (82, 100), (72, 100), (73, 100)] t t' ∧ (-2147483648 ≤ z) ∧ (z ≤ 2147483647))) := by
                intro n11
                induction n11 with
                | zero => intro M11 best least e o8 o9 o10 o11 o12 t11 ok11 fr11 wf11 i11_0 i11_1 i11_2 i11_3 i11_4 i11_5 v11 f11; exfalso; omega
                | succ n11 ih11 =>
                  intro M11 best least e o8 o9 o10 o11 o12 t11 ok11 fr11 wf11 i11_0 i11_1 i11_2 i11_3 i11_4 i11_5 v11 f11
                  obtain ⟨M11, rfl⟩ : ∃ m, M11 = m + 150 := ⟨M11 - 150, by omega⟩
                  refine w_step rfl ?_
                  refine w_iload rfl ?_
                  refine w_iload rfl ?_
                  refine w_cge (by omega) (fun h12 => ?_) (fun h12 => ?_)
                  · skip
                    refine w_step rfl ?_
                    refine w_iload rfl ?_
                    refine w_ige (by omega) (fun h13 => ?_) (fun h13 => ?_)
                    · skip
                      refine w_step rfl ?_
                      refine w_iload rfl ?_
                      refine w_ine (by omega) (fun h14 => ?_) (fun h14 => ?_)
                      · skip
                        refine w_step rfl ?_
                        refine w_iload rfl ?_
                        refine w_goto ?_
                        refine w_step rfl ?_
                        refine w_retI rfl ?_
                        exact ⟨ok11, fr11, (by omega), (by omega)⟩
                      refine w_iload rfl ?_
                      refine w_goto ?_
                      refine w_step rfl ?_
                      refine w_retI rfl ?_
                      exact ⟨ok11, fr11, (by omega), (by omega)⟩
                    refine w_push kc_m1000000005 ?_
                    refine w_goto ?_
                    refine w_step rfl ?_
                    refine w_retI rfl ?_
                    exact ⟨ok11, fr11, (by omega), (by omega)⟩
                  refine w_iload rfl ?_
                  refine w_push kc_1 ?_
                  refine w_sub ?_
                  refine w_iload rfl ?_
                  refine w_callS1I rfl (c_X9_bits ok11 (by omega) (by omega)) ?_
                  rintro z15 t15 ⟨rfl, hp15_0, hp15_1⟩
                  refine w_sub ?_
                  refine w_istore (lv' := [some (.ref 68), some (.int (jI m)), some (.int (jI w)), some (.int (jI z3)), some (.int (jI z8)), some (.int (jI best)), some (.int (jI least)), some (.int (jI e)), some (.int (jI ((m - 1) - z15))), dv o9, dv o10, dv o11, dv o12]) rfl ?_
                  refine w_push kc_0 ?_
                  refine w_istore (lv' := [some (.ref 68), some (.int (jI m)), some (.int (jI w)), some (.int (jI z3)), some (.int (jI z8)), some (.int (jI best)), some (.int (jI least)), some (.int (jI e)), some (.int (jI ((m - 1) - z15))), some (.int (jI 0)), dv o10, dv o11, dv o12]) rfl ?_
                  refine w_goto ?_
                  have key12 : ∀ (n12 M12 : Nat) (best : Int) (least : Int) (s : Int) (o10 : Option Int) (o11 : Option Int) (o12 : Option Int) (t16 : TS), OK t16 → Fr [(81, 100), (82, 100), (72, 100), (73, 100)] t t16 → WF t16 69 → (-1 ≤ best) → (best ≤ 11) → (-2147483648 ≤ least) → (least ≤ 2147483647) → (0 ≤ s) → (s ≤ 12) → 12 - s < (n12 : Int) → 11 * n12 + (150 * n11 + 1000) ≤ M12 → Rn (bX9_best (EX FU (d + 5))) M12 12 [some (.ref 68), some (.int (jI m)), some (.int (jI w)), some (.int (jI z3)), some (.int (jI z8)), some (.int (jI best)), some (.int (jI least)), some (.int (jI e)), some (.int (jI ((m - 1) - z15))), some (.int (jI s)), dv o10, dv o11, dv o12] [] (mk t16) (PI (fun z t' => OK t' ∧ Fr [(81, 100), (82, 100), (72, 100), (73, 100)] t t' ∧ (-2147483648 ≤ z) ∧ (z ≤ 2147483647))) := by
                    intro n12
                    induction n12 with
                    | zero => intro M12 best least s o10 o11 o12 t16 ok16 fr16 wf16 i12_0 i12_1 i12_2 i12_3 i12_4 i12_5 v12 f12; exfalso; omega
                    | succ n12 ih12 =>
                      intro M12 best least s o10 o11 o12 t16 ok16 fr16 wf16 i12_0 i12_1 i12_2 i12_3 i12_4 i12_5 v12 f12
                      obtain ⟨M12, rfl⟩ : ∃ m, M12 = m + 11 := ⟨M12 - 11, by omega⟩
                      refine w_step rfl ?_
                      refine w_iload rfl ?_
                      refine w_aload rfl ?_
                      refine w_getR (g_68_0 _) ?_
                      refine w_push kc_1 ?_
                      refine w_iald (i := 1) (ai_69 _) (by omega) (by omega) (ax_69 nr_1) ok16 (fun z17 hz17 hl17 hh17 => ?_)
                      have eM : z17 = tA t 69 1 := by rw [hz17, fr16.2.1 69 (by simp)]
                      refine w_cge (by omega) (fun h18 => ?_) (fun h18 => ?_)
                      · skip
                        refine w_step rfl ?_
                        refine w_iinc (lv' := [some (.ref 68), some (.int (jI m)), some (.int (jI w)), some (.int (jI z3)), some (.int (jI z8)), some (.int (jI best)), some (.int (jI least)), some (.int (jI (e + 1))), some (.int (jI ((m - 1) - z15))), some (.int (jI s)), dv o10, dv o11, dv o12]) kc_1 rfl rfl ?_
                        refine w_goto ?_
                        exact ih11 _ best least (e + 1) (some ((m - 1) - z15)) (some s) o10 o11 o12 t16 ok16 fr16 wf16 (by omega) (by omega) (by omega) (by omega) (by omega) (by omega) (by omega) (by omega)
                      refine w_iload rfl ?_
                      refine w_ilt (by omega) (fun h19 => ?_) (fun h19 => ?_)
                      · skip
                        refine w_step rfl ?_
                        refine w_iinc (lv' := [some (.ref 68), some (.int (jI m)), some (.int (jI w)), some (.int (jI z3)), some (.int (jI z8)), some (.int (jI best)), some (.int (jI least)), some (.int (jI (e + 1))), some (.int (jI ((m - 1) - z15))), some (.int (jI s)), dv o10, dv o11, dv o12]) kc_1 rfl rfl ?_
                        refine w_goto ?_
                        exact ih11 _ best least (e + 1) (some ((m - 1) - z15)) (some s) o10 o11 o12 t16 ok16 fr16 wf16 (by omega) (by omega) (by omega) (by omega) (by omega) (by omega) (by omega) (by omega)
                      refine w_aload rfl ?_
                      refine w_getR (g_68_5 _) ?_
                      refine w_iload rfl ?_
                      refine w_iald (i := (e).toNat) (ai_72 _) (by omega) (by omega) (ae_72 _) ok16 (fun z20 hz20 hl20 hh20 => ?_)
                      refine w_ilt (by omega) (fun h21 => ?_) (fun h21 => ?_)
                      · skip
                        refine w_step rfl ?_
                        refine w_iinc (lv' := [some (.ref 68), some (.int (jI m)), some (.int (jI w)), some (.int (jI z3)), some (.int (jI z8)), some (.int (jI best)), some (.int (jI least)), some (.int (jI (e + 1))), some (.int (jI ((m - 1) - z15))), some (.int (jI s)), dv o10, dv o11, dv o12]) kc_1 rfl rfl ?_
                        refine w_goto ?_
                        exact ih11 _ best least (e + 1) (some ((m - 1) - z15)) (some s) o10 o11 o12 t16 ok16 fr16 wf16 (by omega) (by omega) (by omega) (by omega) (by omega) (by omega) (by omega) (by omega)
                      refine w_iload rfl ?_
                      refine w_iload rfl ?_
                      refine w_push kc_m1 ?_
                      refine w_bin (fun z22 hz22 hl22 hh22 => ?_)
                      refine w_bin (fun z23 hz23 hl23 hh23 => ?_)
                      refine w_push kc_1 ?_
                      refine w_iload rfl ?_
                      refine w_bin (fun z24 hz24 hl24 hh24 => ?_)
                      refine w_bin (fun z25 hz25 hl25 hh25 => ?_)
                      refine w_ieq (by omega) (fun h26 => ?_) (fun h26 => ?_)
                      · skip
                        refine w_step rfl ?_
                        refine w_iinc (lv' := [some (.ref 68), some (.int (jI m)), some (.int (jI w)), some (.int (jI z3)), some (.int (jI z8)), some (.int (jI best)), some (.int (jI least)), some (.int (jI e)), some (.int (jI ((m - 1) - z15))), some (.int (jI (s + 1))), dv o10, dv o11, dv o12]) kc_1 rfl rfl ?_
                        refine w_goto ?_
                        exact ih12 _ best least (s + 1) o10 o11 o12 t16 ok16 fr16 wf16 (by omega) (by omega) (by omega) (by omega) (by omega) (by omega) (by omega) (by omega)
                      refine w_aload rfl ?_
                      refine w_getR (g_68_5 _) ?_
                      refine w_iload rfl ?_
                      refine w_iald (i := (e).toNat) (ai_72 _) (by omega) (by omega) (ae_72 _) ok16 (fun z27 hz27 hl27 hh27 => ?_)
                      refine w_aload rfl ?_
                      refine w_getR (g_68_6 _) ?_
                      refine w_push kc_12 ?_
                      refine w_iload rfl ?_
                      refine w_mul ?_
                      refine w_iload rfl ?_
                      refine w_add ?_
                      refine w_iald (i := (((12 * s) + ((m - 1) - z15))).toNat) (ai_73 _) (by omega) (by omega) (ae_73 _) ok16 (fun z28 hz28 hl28 hh28 => ?_)
                      refine w_addW (fun z29 hz29 hl29 hh29 => ?_)
                      refine w_istore (lv' := [some (.ref 68), some (.int (jI m)), some (.int (jI w)), some (.int (jI z3)), some (.int (jI z8)), some (.int (jI best)), some (.int (jI least)), some (.int (jI e)), some (.int (jI ((m - 1) - z15))), some (.int (jI s)), some (.int (jI z29)), dv o11, dv o12]) rfl ?_
                      refine w_iload rfl ?_
                      refine w_push kc_1 ?_
                      refine w_iload rfl ?_
                      refine w_bin (fun z30 hz30 hl30 hh30 => ?_)
                      have hL := hz30
                      refine w_bin (fun z31 hz31 hl31 hh31 => ?_)
                      have hO := or_lt (n := tA t 69 1) (by omega) (by omega) eE (by omega) hL hz31
                      refine w_istore (lv' := [some (.ref 68), some (.int (jI m)), some (.int (jI w)), some (.int (jI z3)), some (.int (jI z8)), some (.int (jI best)), some (.int (jI least)), some (.int (jI e)), some (.int (jI ((m - 1) - z15))), some (.int (jI s)), some (.int (jI z29)), some (.int (jI z31)), dv o12]) rfl ?_
                      refine w_iload rfl ?_
                      refine w_ine (by omega) (fun h32 => ?_) (fun h32 => ?_)
                      · skip
                        refine w_step rfl ?_
                        refine w_aload rfl ?_
                        refine w_getR (g_68_5 _) ?_
                        refine w_iload rfl ?_
                        refine w_iald (i := (z31).toNat) (ai_72 _) (by omega) (by omega) (ae_72 _) ok16 (fun z33 hz33 hl33 hh33 => ?_)
                        refine w_ilt (by omega) (fun h34 => ?_) (fun h34 => ?_)
                        · skip
                          refine w_step rfl ?_
                          refine w_aload rfl ?_
                          refine w_getR (g_68_5 _) ?_
                          refine w_iload rfl ?_
                          refine w_iload rfl ?_
                          refine w_iast (i := (z31).toNat) (ai_72 _) rfl (by omega) (by omega) (ae_72 _) ok16 (by omega) (fun t35 ht35 ok35 => ?_)
                          have fr35 := fr16.uA ht35 (by simp)
                          have wf35 := wf16.uAo ht35 (by decide)
                          refine w_goto ?_
                          refine w_step rfl ?_
                          refine w_iinc (lv' := [some (.ref 68), some (.int (jI m)), some (.int (jI w)), some (.int (jI z3)), some (.int (jI z8)), some (.int (jI best)), some (.int (jI least)), some (.int (jI e)), some (.int (jI ((m - 1) - z15))), some (.int (jI (s + 1))), some (.int (jI z29)), some (.int (jI z31)), dv o12]) kc_1 rfl rfl ?_
                          refine w_goto ?_
                          exact ih12 _ best least (s + 1) (some z29) (some z31) o12 t35 ok35 fr35 wf35 (by omega) (by omega) (by omega) (by omega) (by omega) (by omega) (by omega) (by omega)
                        refine w_iload rfl ?_
                        refine w_aload rfl ?_
                        refine w_getR (g_68_5 _) ?_
                        refine w_iload rfl ?_
                        refine w_iald (i := (z31).toNat) (ai_72 _) (by omega) (by omega) (ae_72 _) ok16 (fun z36 hz36 hl36 hh36 => ?_)
                        refine w_cge (by omega) (fun h37 => ?_) (fun h37 => ?_)
                        · skip
                          refine w_step rfl ?_
                          refine w_iinc (lv' := [some (.ref 68), some (.int (jI m)), some (.int (jI w)), some (.int (jI z3)), some (.int (jI z8)), some (.int (jI best)), some (.int (jI least)), some (.int (jI e)), some (.int (jI ((m - 1) - z15))), some (.int (jI (s + 1))), some (.int (jI z29)), some (.int (jI z31)), dv o12]) kc_1 rfl rfl ?_
                          refine w_goto ?_
                          exact ih12 _ best least (s + 1) (some z29) (some z31) o12 t16 ok16 fr16 wf16 (by omega) (by omega) (by omega) (by omega) (by omega) (by omega) (by omega) (by omega)
                        refine w_goto ?_
                        refine w_step rfl ?_
                        refine w_aload rfl ?_
                        refine w_getR (g_68_5 _) ?_
                        refine w_iload rfl ?_
                        refine w_iload rfl ?_
                        refine w_iast (i := (z31).toNat) (ai_72 _) rfl (by omega) (by omega) (ae_72 _) ok16 (by omega) (fun t38 ht38 ok38 => ?_)
                        have fr38 := fr16.uA ht38 (by simp)
                        have wf38 := wf16.uAo ht38 (by decide)
                        refine w_goto ?_
                        refine w_step rfl ?_
                        refine w_iinc (lv' := [some (.ref 68), some (.int (jI m)), some (.int (jI w)), some (.int (jI z3)), some (.int (jI z8)), some (.int (jI best)), some (.int (jI least)), some (.int (jI e)), some (.int (jI ((m - 1) - z15))), some (.int (jI (s + 1))), some (.int (jI z29)), some (.int (jI z31)), dv o12]) kc_1 rfl rfl ?_
                        refine w_goto ?_
                        exact ih12 _ best least (s + 1) (some z29) (some z31) o12 t38 ok38 fr38 wf38 (by omega) (by omega) (by omega) (by omega) (by omega) (by omega) (by omega) (by omega)
                      refine w_iload rfl ?_
                      refine w_ilt (by omega) (fun h39 => ?_) (fun h39 => ?_)
                      · skip
                        refine w_step rfl ?_
                        refine w_push kc_1 ?_
                        refine w_goto ?_
                        refine w_step rfl ?_
                        refine w_istore (lv' := [some (.ref 68), some (.int (jI m)), some (.int (jI w)), some (.int (jI z3)), some (.int (jI z8)), some (.int (jI best)), some (.int (jI least)), some (.int (jI e)), some (.int (jI ((m - 1) - z15))), some (.int (jI s)), some (.int (jI z29)), some (.int (jI z31)), some (.int (jI 1))]) rfl ?_
                        refine w_iload rfl ?_
                        refine w_ieq (by omega) (fun h => absurd h (by omega)) (fun _ => ?_)
                        refine w_iload rfl ?_
                        refine w_goto ?_
                        refine w_step rfl ?_
                        refine w_istore (lv' := [some (.ref 68), some (.int (jI m)), some (.int (jI w)), some (.int (jI z3)), some (.int (jI z8)), some (.int (jI s)), some (.int (jI least)), some (.int (jI e)), some (.int (jI ((m - 1) - z15))), some (.int (jI s)), some (.int (jI z29)), some (.int (jI z31)), some (.int (jI 1))]) rfl ?_
                        refine w_iload rfl ?_
                        refine w_ieq (by omega) (fun h => absurd h (by omega)) (fun _ => ?_)
                        refine w_iload rfl ?_
                        refine w_goto ?_
                        refine w_step rfl ?_
                        refine w_istore (lv' := [some (.ref 68), some (.int (jI m)), some (.int (jI w)), some (.int (jI z3)), some (.int (jI z8)), some (.int (jI s)), some (.int (jI z29)), some (.int (jI e)), some (.int (jI ((m - 1) - z15))), some (.int (jI s)), some (.int (jI z29)), some (.int (jI z31)), some (.int (jI 1))]) rfl ?_
                        refine w_goto ?_
                        refine w_step rfl ?_
                        refine w_iinc (lv' := [some (.ref 68), some (.int (jI m)), some (.int (jI w)), some (.int (jI z3)), some (.int (jI z8)), some (.int (jI s)), some (.int (jI z29)), some (.int (jI e)), some (.int (jI ((m - 1) - z15))), some (.int (jI (s + 1))), some (.int (jI z29)), some (.int (jI z31)), some (.int (jI 1))]) kc_1 rfl rfl ?_
                        refine w_goto ?_
                        exact ih12 _ s z29 (s + 1) (some z29) (some z31) (some 1) t16 ok16 fr16 wf16 (by omega) (by omega) (by omega) (by omega) (by omega) (by omega) (by omega) (by omega)
                      refine w_iload rfl ?_
                      refine w_iload rfl ?_
                      refine w_clt (by omega) (fun h40 => ?_) (fun h40 => ?_)
                      · skip
                        refine w_step rfl ?_
                        refine w_push kc_1 ?_
                        refine w_goto ?_
                        refine w_step rfl ?_
                        refine w_istore (lv' := [some (.ref 68), some (.int (jI m)), some (.int (jI w)), some (.int (jI z3)), some (.int (jI z8)), some (.int (jI best)), some (.int (jI least)), some (.int (jI e)), some (.int (jI ((m - 1) - z15))), some (.int (jI s)), some (.int (jI z29)), some (.int (jI z31)), some (.int (jI 1))]) rfl ?_
                        refine w_iload rfl ?_
                        refine w_ieq (by omega) (fun h => absurd h (by omega)) (fun _ => ?_)
                        refine w_iload rfl ?_
                        refine w_goto ?_
                        refine w_step rfl ?_
                        refine w_istore (lv' := [some (.ref 68), some (.int (jI m)), some (.int (jI w)), some (.int (jI z3)), some (.int (jI z8)), some (.int (jI s)), some (.int (jI least)), some (.int (jI e)), some (.int (jI ((m - 1) - z15))), some (.int (jI s)), some (.int (jI z29)), some (.int (jI z31)), some (.int (jI 1))]) rfl ?_
                        refine w_iload rfl ?_
                        refine w_ieq (by omega) (fun h => absurd h (by omega)) (fun _ => ?_)
                        refine w_iload rfl ?_
                        refine w_goto ?_
                        refine w_step rfl ?_
                        refine w_istore (lv' := [some (.ref 68), some (.int (jI m)), some (.int (jI w)), some (.int (jI z3)), some (.int (jI z8)), some (.int (jI s)), some (.int (jI z29)), some (.int (jI e)), some (.int (jI ((m - 1) - z15))), some (.int (jI s)), some (.int (jI z29)), some (.int (jI z31)), some (.int (jI 1))]) rfl ?_
                        refine w_goto ?_
                        refine w_step rfl ?_
                        refine w_iinc (lv' := [some (.ref 68), some (.int (jI m)), some (.int (jI w)), some (.int (jI z3)), some (.int (jI z8)), some (.int (jI s)), some (.int (jI z29)), some (.int (jI e)), some (.int (jI ((m - 1) - z15))), some (.int (jI (s + 1))), some (.int (jI z29)), some (.int (jI z31)), some (.int (jI 1))]) kc_1 rfl rfl ?_
                        refine w_goto ?_
                        exact ih12 _ s z29 (s + 1) (some z29) (some z31) (some 1) t16 ok16 fr16 wf16 (by omega) (by omega) (by omega) (by omega) (by omega) (by omega) (by omega) (by omega)
                      refine w_iload rfl ?_
                      refine w_iload rfl ?_
                      refine w_cne (by omega) (fun h41 => ?_) (fun h41 => ?_)
                      · skip
                        refine w_step rfl ?_
                        refine w_push kc_0 ?_
                        refine w_goto ?_
                        refine w_step rfl ?_
                        refine w_istore (lv' := [some (.ref 68), some (.int (jI m)), some (.int (jI w)), some (.int (jI z3)), some (.int (jI z8)), some (.int (jI best)), some (.int (jI least)), some (.int (jI e)), some (.int (jI ((m - 1) - z15))), some (.int (jI s)), some (.int (jI z29)), some (.int (jI z31)), some (.int (jI 0))]) rfl ?_
                        refine w_iload rfl ?_
                        refine w_ieq (by omega) (fun _ => ?_) (fun h => absurd (by omega) h)
                        refine w_step rfl ?_
                        refine w_iload rfl ?_
                        refine w_goto ?_
                        refine w_step rfl ?_
                        refine w_istore (lv' := [some (.ref 68), some (.int (jI m)), some (.int (jI w)), some (.int (jI z3)), some (.int (jI z8)), some (.int (jI best)), some (.int (jI least)), some (.int (jI e)), some (.int (jI ((m - 1) - z15))), some (.int (jI s)), some (.int (jI z29)), some (.int (jI z31)), some (.int (jI 0))]) rfl ?_
                        refine w_iload rfl ?_
                        refine w_ieq (by omega) (fun _ => ?_) (fun h => absurd (by omega) h)
                        refine w_step rfl ?_
                        refine w_iload rfl ?_
                        refine w_goto ?_
                        refine w_step rfl ?_
                        refine w_istore (lv' := [some (.ref 68), some (.int (jI m)), some (.int (jI w)), some (.int (jI z3)), some (.int (jI z8)), some (.int (jI best)), some (.int (jI least)), some (.int (jI e)), some (.int (jI ((m - 1) - z15))), some (.int (jI s)), some (.int (jI z29)), some (.int (jI z31)), some (.int (jI 0))]) rfl ?_
                        refine w_goto ?_
                        refine w_step rfl ?_
                        refine w_iinc (lv' := [some (.ref 68), some (.int (jI m)), some (.int (jI w)), some (.int (jI z3)), some (.int (jI z8)), some (.int (jI best)), some (.int (jI least)), some (.int (jI e)), some (.int (jI ((m - 1) - z15))), some (.int (jI (s + 1))), some (.int (jI z29)), some (.int (jI z31)), some (.int (jI 0))]) kc_1 rfl rfl ?_
                        refine w_goto ?_
                        exact ih12 _ best least (s + 1) (some z29) (some z31) (some 0) t16 ok16 fr16 wf16 (by omega) (by omega) (by omega) (by omega) (by omega) (by omega) (by omega) (by omega)
                      refine w_iload rfl ?_
                      refine w_iload rfl ?_
                      refine w_cge (by omega) (fun h42 => ?_) (fun h42 => ?_)
                      · skip
                        refine w_step rfl ?_
                        refine w_push kc_0 ?_
                        refine w_goto ?_
                        refine w_step rfl ?_
                        refine w_istore (lv' := [some (.ref 68), some (.int (jI m)), some (.int (jI w)), some (.int (jI z3)), some (.int (jI z8)), some (.int (jI best)), some (.int (jI least)), some (.int (jI e)), some (.int (jI ((m - 1) - z15))), some (.int (jI s)), some (.int (jI z29)), some (.int (jI z31)), some (.int (jI 0))]) rfl ?_
                        refine w_iload rfl ?_
                        refine w_ieq (by omega) (fun _ => ?_) (fun h => absurd (by omega) h)
                        refine w_step rfl ?_
                        refine w_iload rfl ?_
                        refine w_goto ?_
                        refine w_step rfl ?_
                        refine w_istore (lv' := [some (.ref 68), some (.int (jI m)), some (.int (jI w)), some (.int (jI z3)), some (.int (jI z8)), some (.int (jI best)), some (.int (jI least)), some (.int (jI e)), some (.int (jI ((m - 1) - z15))), some (.int (jI s)), some (.int (jI z29)), some (.int (jI z31)), some (.int (jI 0))]) rfl ?_
                        refine w_iload rfl ?_
                        refine w_ieq (by omega) (fun _ => ?_) (fun h => absurd (by omega) h)
                        refine w_step rfl ?_
                        refine w_iload rfl ?_
                        refine w_goto ?_
                        refine w_step rfl ?_
                        refine w_istore (lv' := [some (.ref 68), some (.int (jI m)), some (.int (jI w)), some (.int (jI z3)), some (.int (jI z8)), some (.int (jI best)), some (.int (jI least)), some (.int (jI e)), some (.int (jI ((m - 1) - z15))), some (.int (jI s)), some (.int (jI z29)), some (.int (jI z31)), some (.int (jI 0))]) rfl ?_
                        refine w_goto ?_
                        refine w_step rfl ?_
                        refine w_iinc (lv' := [some (.ref 68), some (.int (jI m)), some (.int (jI w)), some (.int (jI z3)), some (.int (jI z8)), some (.int (jI best)), some (.int (jI least)), some (.int (jI e)), some (.int (jI ((m - 1) - z15))), some (.int (jI (s + 1))), some (.int (jI z29)), some (.int (jI z31)), some (.int (jI 0))]) kc_1 rfl rfl ?_
                        refine w_goto ?_
                        exact ih12 _ best least (s + 1) (some z29) (some z31) (some 0) t16 ok16 fr16 wf16 (by omega) (by omega) (by omega) (by omega) (by omega) (by omega) (by omega) (by omega)
                      refine w_goto ?_
                      refine w_step rfl ?_
                      refine w_push kc_1 ?_
                      refine w_goto ?_
                      refine w_step rfl ?_
                      refine w_istore (lv' := [some (.ref 68), some (.int (jI m)), some (.int (jI w)), some (.int (jI z3)), some (.int (jI z8)), some (.int (jI best)), some (.int (jI least)), some (.int (jI e)), some (.int (jI ((m - 1) - z15))), some (.int (jI s)), some (.int (jI z29)), some (.int (jI z31)), some (.int (jI 1))]) rfl ?_
                      refine w_iload rfl ?_
                      refine w_ieq (by omega) (fun h => absurd h (by omega)) (fun _ => ?_)
                      refine w_iload rfl ?_
                      refine w_goto ?_
                      refine w_step rfl ?_
                      refine w_istore (lv' := [some (.ref 68), some (.int (jI m)), some (.int (jI w)), some (.int (jI z3)), some (.int (jI z8)), some (.int (jI s)), some (.int (jI least)), some (.int (jI e)), some (.int (jI ((m - 1) - z15))), some (.int (jI s)), some (.int (jI z29)), some (.int (jI z31)), some (.int (jI 1))]) rfl ?_
                      refine w_iload rfl ?_
                      refine w_ieq (by omega) (fun h => absurd h (by omega)) (fun _ => ?_)
                      refine w_iload rfl ?_
                      refine w_goto ?_
                      refine w_step rfl ?_
                      refine w_istore (lv' := [some (.ref 68), some (.int (jI m)), some (.int (jI w)), some (.int (jI z3)), some (.int (jI z8)), some (.int (jI s)), some (.int (jI z29)), some (.int (jI e)), some (.int (jI ((m - 1) - z15))), some (.int (jI s)), some (.int (jI z29)), some (.int (jI z31)), some (.int (jI 1))]) rfl ?_
                      refine w_goto ?_
                      refine w_step rfl ?_
                      refine w_iinc (lv' := [some (.ref 68), some (.int (jI m)), some (.int (jI w)), some (.int (jI z3)), some (.int (jI z8)), some (.int (jI s)), some (.int (jI z29)), some (.int (jI e)), some (.int (jI ((m - 1) - z15))), some (.int (jI (s + 1))), some (.int (jI z29)), some (.int (jI z31)), some (.int (jI 1))]) kc_1 rfl rfl ?_
                      refine w_goto ?_
                      exact ih12 _ s z29 (s + 1) (some z29) (some z31) (some 1) t16 ok16 fr16 wf16 (by omega) (by omega) (by omega) (by omega) (by omega) (by omega) (by omega) (by omega)
                  exact key12 13 _ best least 0 o10 o11 o12 t11 ok11 fr11 wf11 (by omega) (by omega) (by omega) (by omega) (by omega) (by omega) (by omega) (by omega)
              exact key11 4097 _ (-1) 0 0 none none none none none t9 ok9 fr9 wf9 (by omega) (by omega) (by omega) (by omega) (by omega) (by omega) (by omega) (by omega)
            refine w_aload rfl ?_
            refine w_getR (g_68_5 _) ?_
            refine w_iload rfl ?_
            refine w_iload rfl ?_
            refine w_ine (by omega) (fun h43 => ?_) (fun h43 => ?_)
            · skip
              refine w_step rfl ?_
              refine w_push kc_m1 ?_
              refine w_goto ?_
              refine w_step rfl ?_
              refine w_iast (i := (e).toNat) (ai_72 _) rfl (by omega) (by omega) (ae_72 _) ok9 (by omega) (fun t44 ht44 ok44 => ?_)
              have fr44 := fr9.uA ht44 (by simp)
              have wf44 := wf9.uAo ht44 (by decide)
              refine w_iinc (lv' := [some (.ref 68), some (.int (jI m)), some (.int (jI w)), some (.int (jI z3)), some (.int (jI z8)), some (.int (jI (e + 1))), none, none, none, none, none, none, none]) kc_1 rfl rfl ?_
              refine w_goto ?_
              exact ih7 _ (e + 1) t44 ok44 fr44 wf44 (by omega) (by omega) (by omega) (by omega)
            refine w_push kc_0 ?_
            refine w_goto ?_
            refine w_step rfl ?_
            refine w_iast (i := (e).toNat) (ai_72 _) rfl (by omega) (by omega) (ae_72 _) ok9 (by omega) (fun t45 ht45 ok45 => ?_)
            have fr45 := fr9.uA ht45 (by simp)
            have wf45 := wf9.uAo ht45 (by decide)
            refine w_iinc (lv' := [some (.ref 68), some (.int (jI m)), some (.int (jI w)), some (.int (jI z3)), some (.int (jI z8)), some (.int (jI (e + 1))), none, none, none, none, none, none, none]) kc_1 rfl rfl ?_
            refine w_goto ?_
            exact ih7 _ (e + 1) t45 ok45 fr45 wf45 (by omega) (by omega) (by omega) (by omega)
        exact key7 4097 _ 0 t4 ok4 fr4 wf4 (by omega) (by omega) (by omega) (by omega)
      refine w_push kc_0 ?_
      refine w_istore (lv' := [some (.ref 68), some (.int (jI m)), some (.int (jI w)), some (.int (jI z3)), some (.int (jI s)), some (.int (jI 0)), none, none, none, none, none, none, none]) rfl ?_
      refine w_goto ?_
      have key4 : ∀ (n4 M4 : Nat) (p : Int) (t46 : TS), OK t46 → Fr [(81, 100), (82, 100), (72, 100), (73, 100)] t t46 → WF t46 69 → (0 ≤ p) → (p ≤ m) → 6 - p < (n4 : Int) → 10 * n4 + (200 * n3 + BIG) ≤ M4 → Rn (bX9_best (EX FU (d + 5))) M4 4 [some (.ref 68), some (.int (jI m)), some (.int (jI w)), some (.int (jI z3)), some (.int (jI s)), some (.int (jI p)), none, none, none, none, none, none, none] [] (mk t46) (PI (fun z t' => OK t' ∧ Fr [(81, 100), (82, 100), (72, 100), (73, 100)] t t' ∧ (-2147483648 ≤ z) ∧ (z ≤ 2147483647))) := by
        intro n4
        induction n4 with
        | zero => intro M4 p t46 ok46 fr46 wf46 i4_0 i4_1 v4 f4; exfalso; omega
        | succ n4 ih4 =>
          intro M4 p t46 ok46 fr46 wf46 i4_0 i4_1 v4 f4
          obtain ⟨M4, rfl⟩ : ∃ m, M4 = m + 10 := ⟨M4 - 10, by omega⟩
          refine w_step rfl ?_
          refine w_iload rfl ?_
          refine w_iload rfl ?_
          refine w_cge (by omega) (fun h47 => ?_) (fun h47 => ?_)
          · skip
            refine w_step rfl ?_
            refine w_iinc (lv' := [some (.ref 68), some (.int (jI m)), some (.int (jI w)), some (.int (jI z3)), some (.int (jI (s + 1))), some (.int (jI p)), none, none, none, none, none, none, none]) kc_1 rfl rfl ?_
            refine w_goto ?_
            exact ih3 _ (s + 1) (some p) t46 ok46 fr46 wf46 (by omega) (by omega) (by omega) (by omega)
          refine w_aload rfl ?_
          refine w_getR (g_68_6 _) ?_
          refine w_push kc_12 ?_
          refine w_iload rfl ?_
          refine w_mul ?_
          refine w_iload rfl ?_
          refine w_add ?_
          refine w_aload rfl ?_
          refine w_iload rfl ?_
          refine w_iload rfl ?_
          refine w_callV2I (oj_68 _).choose_spec rfl (c_X9_leastAt ok46 wf46 (by omega) (by omega) (by omega) (by omega)) ?_
          rintro z48 t48 ⟨ok48, fq48, hp48_0, hp48_1⟩
          have fr48 := fr46.then fq48 (by simp)
          have wf48 := wf46.fr fq48 (by simp)
          refine w_iast (i := (((12 * s) + p)).toNat) (ai_73 _) rfl (by omega) (by omega) (ae_73 _) ok48 (by omega) (fun t49 ht49 ok49 => ?_)
          have fr49 := fr48.uA ht49 (by simp)
          have wf49 := wf48.uAo ht49 (by decide)
          refine w_iinc (lv' := [some (.ref 68), some (.int (jI m)), some (.int (jI w)), some (.int (jI z3)), some (.int (jI s)), some (.int (jI (p + 1))), none, none, none, none, none, none, none]) kc_1 rfl rfl ?_
          refine w_goto ?_
          exact ih4 _ (p + 1) t49 ok49 fr49 wf49 (by omega) (by omega) (by omega) (by omega)
      exact key4 7 _ 0 t4 ok4 fr4 wf4 (by omega) (by omega) (by omega) (by omega)
  exact key3 13 _ 0 none t ok fr q0 (by omega) (by omega) (by omega) (by omega)
