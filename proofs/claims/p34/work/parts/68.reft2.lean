set_option maxRecDepth 100000 in
set_option maxHeartbeats 4000000 in
theorem c_X9_takesKey {d : Nat} {t : TS}  (ok : OK t) (q0 : tI t 68 11 ≤ tI t 68 10) (q1 : tI t 68 10 ≤ tI t 68 9) : CI (EX FU (d + 3)) 192 [.ref 68] (mk t) (fun z t' => OK t' ∧ Fr [(68, 10), (68, 11), (68, 12), (68, 13), (68, 14), (68, 15)] t t' ∧ (0 ≤ z) ∧ (z ≤ 1) ∧ (tI t' 68 11 ≤ tI t' 68 10) ∧ (tI t' 68 10 ≤ tI t 68 9) ∧ (¬ z = 0 → 3 ≤ tI t' 68 11) ∧ (tI t' 68 12 = 0 → tI t' 68 11 = tI t 68 9 ∨ z = 0) ∧ (¬ tI t' 68 12 = 0 → tI t' 68 11 < tI t' 68 10 ∨ z = 0)) := by
  refine CI_ent (d := d + 2) (Bk := bX9_takesKey) (nL := 5) rfl rfl rfl (Nat.le_of_ble_eq_true rfl) ?_
  show Rn _ 1000000 0 [some (.ref 68), none, none, none, none] [] _ _
  have fr : Fr [(68, 10), (68, 11), (68, 12), (68, 13), (68, 14), (68, 15)] t t := Fr.rf _ _
  have hr9t := ok.f fe_68_9
  refine w_step rfl ?_
  refine w_aload rfl ?_
  refine w_getI (g_68_12 _) fe_68_12 ok (fun z1 hz1 hl1 hh1 => ?_)
  refine w_push kc_1 ?_
  refine w_ceq (by omega) (fun h2 => ?_) (fun h2 => ?_)
  · skip
    refine w_step rfl ?_
    refine w_push kc_0 ?_
    refine w_istore (lv' := [some (.ref 68), some (.int (jI 0)), none, none, none]) rfl ?_
    refine w_goto ?_
    have key2 : ∀ (n2 M2 : Nat) (w : Int) (o2 : Option Int) (o3 : Option Int) (o4 : Option Int), (0 ≤ w) → (w ≤ 3) → 3 - w < (n2 : Int) → 2000 * n2 + (1000) ≤ M2 → Rn (bX9_takesKey (EX FU (d + 2))) M2 2 [some (.ref 68), some (.int (jI w)), dv o2, dv o3, dv o4] [] (mk t) (PI (fun z t' => OK t' ∧ Fr [(68, 10), (68, 11), (68, 12), (68, 13), (68, 14), (68, 15)] t t' ∧ (0 ≤ z) ∧ (z ≤ 1) ∧ (tI t' 68 11 ≤ tI t' 68 10) ∧ (tI t' 68 10 ≤ tI t 68 9) ∧ (¬ z = 0 → 3 ≤ tI t' 68 11) ∧ (tI t' 68 12 = 0 → tI t' 68 11 = tI t 68 9 ∨ z = 0) ∧ (¬ tI t' 68 12 = 0 → tI t' 68 11 < tI t' 68 10 ∨ z = 0))) := by
      intro n2
      induction n2 with
      | zero => intro M2 w o2 o3 o4 i2_0 i2_1 v2 f2; exfalso; omega
      | succ n2 ih2 =>
        intro M2 w o2 o3 o4 i2_0 i2_1 v2 f2
        obtain ⟨M2, rfl⟩ : ∃ m, M2 = m + 2000 := ⟨M2 - 2000, by omega⟩
        refine w_step rfl ?_
        refine w_iload rfl ?_
        refine w_push kc_3 ?_
        refine w_cge (by omega) (fun h3 => ?_) (fun h3 => ?_)
        · skip
          refine w_step rfl ?_
          refine w_push kc_0 ?_
          refine w_retI rfl ?_
          exact ⟨ok, fr, (by omega), (by omega), (by omega), (by omega), (by omega), (by omega), (by omega)⟩
        refine w_aload rfl ?_
        refine w_getR (g_68_17 _) ?_
        refine w_iload rfl ?_
        refine w_push kc_1 ?_
        refine w_add ?_
        refine w_iald (i := ((w + 1)).toNat) (ai_77 _) (by omega) (by omega) (ae_77 _) ok (fun z4 hz4 hl4 hh4 => ?_)
        have hk4 := kr_s (w := w + 1) (by omega)
        refine w_aload rfl ?_
        refine w_getR (g_68_17 _) ?_
        refine w_iload rfl ?_
        refine w_iald (i := (w).toNat) (ai_77 _) (by omega) (by omega) (ae_77 _) ok (fun z5 hz5 hl5 hh5 => ?_)
        have hk5 := kr_s (w := w) (by omega)
        refine w_sub ?_
        refine w_istore (lv' := [some (.ref 68), some (.int (jI w)), some (.int (jI (z4 - z5))), dv o3, dv o4]) rfl ?_
        refine w_iload rfl ?_
        refine w_aload rfl ?_
        refine w_getI (g_68_10 _) fe_68_10 ok (fun z6 hz6 hl6 hh6 => ?_)
        refine w_aload rfl ?_
        refine w_getI (g_68_11 _) fe_68_11 ok (fun z7 hz7 hl7 hh7 => ?_)
        refine w_sub ?_
        refine w_cne (by omega) (fun h8 => ?_) (fun h8 => ?_)
        · skip
          refine w_step rfl ?_
          refine w_push kc_0 ?_
          refine w_goto ?_
          refine w_step rfl ?_
          refine w_istore (lv' := [some (.ref 68), some (.int (jI w)), some (.int (jI (z4 - z5))), some (.int (jI 0)), dv o4]) rfl ?_
          refine w_push kc_0 ?_
          refine w_istore (lv' := [some (.ref 68), some (.int (jI w)), some (.int (jI (z4 - z5))), some (.int (jI 0)), some (.int (jI 0))]) rfl ?_
          refine w_goto ?_
          have key5 : ∀ (n5 M5 : Nat) (same : Int) (k : Int), (0 ≤ same) → (same ≤ 1) → (0 ≤ k) → (k ≤ 96) → (same = 0 ∨ (z4 - z5) = tI t 68 10 - tI t 68 11) → 96 - k < (n5 : Int) → 15 * n5 + (2000 * n2 + 1000) ≤ M5 → Rn (bX9_takesKey (EX FU (d + 2))) M5 5 [some (.ref 68), some (.int (jI w)), some (.int (jI (z4 - z5))), some (.int (jI same)), some (.int (jI k))] [] (mk t) (PI (fun z t' => OK t' ∧ Fr [(68, 10), (68, 11), (68, 12), (68, 13), (68, 14), (68, 15)] t t' ∧ (0 ≤ z) ∧ (z ≤ 1) ∧ (tI t' 68 11 ≤ tI t' 68 10) ∧ (tI t' 68 10 ≤ tI t 68 9) ∧ (¬ z = 0 → 3 ≤ tI t' 68 11) ∧ (tI t' 68 12 = 0 → tI t' 68 11 = tI t 68 9 ∨ z = 0) ∧ (¬ tI t' 68 12 = 0 → tI t' 68 11 < tI t' 68 10 ∨ z = 0))) := by
            intro n5
            induction n5 with
            | zero => intro M5 same k i5_0 i5_1 i5_2 i5_3 i5_4 v5 f5; exfalso; omega
            | succ n5 ih5 =>
              intro M5 same k i5_0 i5_1 i5_2 i5_3 i5_4 v5 f5
              obtain ⟨M5, rfl⟩ : ∃ m, M5 = m + 15 := ⟨M5 - 15, by omega⟩
              refine w_step rfl ?_
              refine w_iload rfl ?_
              refine w_iload rfl ?_
              refine w_cge (by omega) (fun h9 => ?_) (fun h9 => ?_)
              · skip
                refine w_step rfl ?_
                refine w_iload rfl ?_
                refine w_ieq (by omega) (fun h10 => ?_) (fun h10 => ?_)
                · skip
                  refine w_step rfl ?_
                  refine w_iinc (lv' := [some (.ref 68), some (.int (jI (w + 1))), some (.int (jI (z4 - z5))), some (.int (jI same)), some (.int (jI k))]) kc_1 rfl rfl ?_
                  refine w_goto ?_
                  exact ih2 _ (w + 1) (some (z4 - z5)) (some same) (some k)  (by omega) (by omega) (by omega) (by omega)
                refine w_aload rfl ?_
                refine w_iload rfl ?_
                refine w_putI (p_68_15 _) fe_68_15 ok (by omega) (fun t11 ht11 ok11 => ?_)
                have kf11_68_9 : tI t11 68 9 = tI t 68 9 := by rw [ht11, tI_uI, if_neg (by decide)]
                have kf11_68_10 : tI t11 68 10 = tI t 68 10 := by rw [ht11, tI_uI, if_neg (by decide)]
                have kf11_68_11 : tI t11 68 11 = tI t 68 11 := by rw [ht11, tI_uI, if_neg (by decide)]
                have kf11_68_12 : tI t11 68 12 = tI t 68 12 := by rw [ht11, tI_uI, if_neg (by decide)]
                have kf11_68_13 : tI t11 68 13 = tI t 68 13 := by rw [ht11, tI_uI, if_neg (by decide)]
                have kf11_68_14 : tI t11 68 14 = tI t 68 14 := by rw [ht11, tI_uI, if_neg (by decide)]
                have fr11 := fr.uI ht11 (by simp)
                refine w_aload rfl ?_
                refine w_callV0V (oj_68 _).choose_spec rfl (c_X9_go ok11 (by omega)) ?_
                rintro t12 ⟨ok12, fq12, hp12_0, hp12_1, hp12_2, hp12_3, hp12_4⟩
                have fr12 := fr11.then fq12 (by simp)
                have kf12_68_9 : tI t12 68 9 = tI t11 68 9 := fq12.1 68 9 (by simp)
                refine w_push kc_1 ?_
                refine w_retI rfl ?_
                exact ⟨ok12, fr12, (by omega), (by omega), (by omega), (by omega), (by omega), (by omega), (by omega)⟩
              refine w_iload rfl ?_
              refine w_ieq (by omega) (fun h13 => ?_) (fun h13 => ?_)
              · skip
                refine w_step rfl ?_
                refine w_iload rfl ?_
                refine w_ieq (by omega) (fun _ => ?_) (fun h => absurd (by omega) h)
                refine w_step rfl ?_
                refine w_iinc (lv' := [some (.ref 68), some (.int (jI (w + 1))), some (.int (jI (z4 - z5))), some (.int (jI same)), some (.int (jI k))]) kc_1 rfl rfl ?_
                refine w_goto ?_
                exact ih2 _ (w + 1) (some (z4 - z5)) (some same) (some k)  (by omega) (by omega) (by omega) (by omega)
              refine w_aload rfl ?_
              refine w_getR (g_68_8 _) ?_
              refine w_aload rfl ?_
              refine w_getI (g_68_11 _) fe_68_11 ok (fun z14 hz14 hl14 hh14 => ?_)
              refine w_iload rfl ?_
              refine w_add ?_
              refine w_iald (i := ((z14 + k)).toNat) (ai_75 _) (by omega) (by omega) (ae_75 _) ok (fun z15 hz15 hl15 hh15 => ?_)
              refine w_aload rfl ?_
              refine w_getR (g_68_16 _) ?_
              refine w_aload rfl ?_
              refine w_getR (g_68_17 _) ?_
              refine w_iload rfl ?_
              refine w_iald (i := (w).toNat) (ai_77 _) (by omega) (by omega) (ae_77 _) ok (fun z16 hz16 hl16 hh16 => ?_)
              refine w_iload rfl ?_
              refine w_add ?_
              refine w_iald (i := ((z16 + k)).toNat) (ai_76 _) (by omega) (by omega) (ae_76 _) ok (fun z17 hz17 hl17 hh17 => ?_)
              refine w_cne (by omega) (fun h18 => ?_) (fun h18 => ?_)
              · skip
                refine w_step rfl ?_
                refine w_push kc_0 ?_
                refine w_goto ?_
                refine w_step rfl ?_
                refine w_istore (lv' := [some (.ref 68), some (.int (jI w)), some (.int (jI (z4 - z5))), some (.int (jI 0)), some (.int (jI k))]) rfl ?_
                refine w_iinc (lv' := [some (.ref 68), some (.int (jI w)), some (.int (jI (z4 - z5))), some (.int (jI 0)), some (.int (jI (k + 1)))]) kc_1 rfl rfl ?_
                refine w_goto ?_
                exact ih5 _ 0 (k + 1)  (by omega) (by omega) (by omega) (by omega) (by omega) (by omega) (by omega)
              refine w_push kc_1 ?_
              refine w_goto ?_
              refine w_step rfl ?_
              refine w_istore (lv' := [some (.ref 68), some (.int (jI w)), some (.int (jI (z4 - z5))), some (.int (jI 1)), some (.int (jI k))]) rfl ?_
              refine w_iinc (lv' := [some (.ref 68), some (.int (jI w)), some (.int (jI (z4 - z5))), some (.int (jI 1)), some (.int (jI (k + 1)))]) kc_1 rfl rfl ?_
              refine w_goto ?_
              exact ih5 _ 1 (k + 1)  (by omega) (by omega) (by omega) (by omega) (by omega) (by omega) (by omega)
          exact key5 97 _ 0 0  (by omega) (by omega) (by omega) (by omega) (by omega) (by omega) (by omega)
        refine w_push kc_1 ?_
        refine w_goto ?_
        refine w_step rfl ?_
        refine w_istore (lv' := [some (.ref 68), some (.int (jI w)), some (.int (jI (z4 - z5))), some (.int (jI 1)), dv o4]) rfl ?_
        refine w_push kc_0 ?_
        refine w_istore (lv' := [some (.ref 68), some (.int (jI w)), some (.int (jI (z4 - z5))), some (.int (jI 1)), some (.int (jI 0))]) rfl ?_
        refine w_goto ?_
        have key5 : ∀ (n5 M5 : Nat) (same : Int) (k : Int), (0 ≤ same) → (same ≤ 1) → (0 ≤ k) → (k ≤ 96) → (same = 0 ∨ (z4 - z5) = tI t 68 10 - tI t 68 11) → 96 - k < (n5 : Int) → 15 * n5 + (2000 * n2 + 1000) ≤ M5 → Rn (bX9_takesKey (EX FU (d + 2))) M5 5 [some (.ref 68), some (.int (jI w)), some (.int (jI (z4 - z5))), some (.int (jI same)), some (.int (jI k))] [] (mk t) (PI (fun z t' => OK t' ∧ Fr [(68, 10), (68, 11), (68, 12), (68, 13), (68, 14), (68, 15)] t t' ∧ (0 ≤ z) ∧ (z ≤ 1) ∧ (tI t' 68 11 ≤ tI t' 68 10) ∧ (tI t' 68 10 ≤ tI t 68 9) ∧ (¬ z = 0 → 3 ≤ tI t' 68 11) ∧ (tI t' 68 12 = 0 → tI t' 68 11 = tI t 68 9 ∨ z = 0) ∧ (¬ tI t' 68 12 = 0 → tI t' 68 11 < tI t' 68 10 ∨ z = 0))) := by
          intro n5
          induction n5 with
          | zero => intro M5 same k i5_0 i5_1 i5_2 i5_3 i5_4 v5 f5; exfalso; omega
          | succ n5 ih5 =>
            intro M5 same k i5_0 i5_1 i5_2 i5_3 i5_4 v5 f5
            obtain ⟨M5, rfl⟩ : ∃ m, M5 = m + 15 := ⟨M5 - 15, by omega⟩
            refine w_step rfl ?_
            refine w_iload rfl ?_
            refine w_iload rfl ?_
            refine w_cge (by omega) (fun h19 => ?_) (fun h19 => ?_)
            · skip
              refine w_step rfl ?_
              refine w_iload rfl ?_
              refine w_ieq (by omega) (fun h20 => ?_) (fun h20 => ?_)
              · skip
                refine w_step rfl ?_
                refine w_iinc (lv' := [some (.ref 68), some (.int (jI (w + 1))), some (.int (jI (z4 - z5))), some (.int (jI same)), some (.int (jI k))]) kc_1 rfl rfl ?_
                refine w_goto ?_
                exact ih2 _ (w + 1) (some (z4 - z5)) (some same) (some k)  (by omega) (by omega) (by omega) (by omega)
              refine w_aload rfl ?_
              refine w_iload rfl ?_
              refine w_putI (p_68_15 _) fe_68_15 ok (by omega) (fun t21 ht21 ok21 => ?_)
              have kf21_68_9 : tI t21 68 9 = tI t 68 9 := by rw [ht21, tI_uI, if_neg (by decide)]
              have kf21_68_10 : tI t21 68 10 = tI t 68 10 := by rw [ht21, tI_uI, if_neg (by decide)]
              have kf21_68_11 : tI t21 68 11 = tI t 68 11 := by rw [ht21, tI_uI, if_neg (by decide)]
              have kf21_68_12 : tI t21 68 12 = tI t 68 12 := by rw [ht21, tI_uI, if_neg (by decide)]
              have kf21_68_13 : tI t21 68 13 = tI t 68 13 := by rw [ht21, tI_uI, if_neg (by decide)]
              have kf21_68_14 : tI t21 68 14 = tI t 68 14 := by rw [ht21, tI_uI, if_neg (by decide)]
              have fr21 := fr.uI ht21 (by simp)
              refine w_aload rfl ?_
              refine w_callV0V (oj_68 _).choose_spec rfl (c_X9_go ok21 (by omega)) ?_
              rintro t22 ⟨ok22, fq22, hp22_0, hp22_1, hp22_2, hp22_3, hp22_4⟩
              have fr22 := fr21.then fq22 (by simp)
              have kf22_68_9 : tI t22 68 9 = tI t21 68 9 := fq22.1 68 9 (by simp)
              refine w_push kc_1 ?_
              refine w_retI rfl ?_
              exact ⟨ok22, fr22, (by omega), (by omega), (by omega), (by omega), (by omega), (by omega), (by omega)⟩
            refine w_iload rfl ?_
            refine w_ieq (by omega) (fun h23 => ?_) (fun h23 => ?_)
            · skip
              refine w_step rfl ?_
              refine w_iload rfl ?_
              refine w_ieq (by omega) (fun _ => ?_) (fun h => absurd (by omega) h)
              refine w_step rfl ?_
              refine w_iinc (lv' := [some (.ref 68), some (.int (jI (w + 1))), some (.int (jI (z4 - z5))), some (.int (jI same)), some (.int (jI k))]) kc_1 rfl rfl ?_
              refine w_goto ?_
              exact ih2 _ (w + 1) (some (z4 - z5)) (some same) (some k)  (by omega) (by omega) (by omega) (by omega)
            refine w_aload rfl ?_
            refine w_getR (g_68_8 _) ?_
            refine w_aload rfl ?_
            refine w_getI (g_68_11 _) fe_68_11 ok (fun z24 hz24 hl24 hh24 => ?_)
            refine w_iload rfl ?_
            refine w_add ?_
            refine w_iald (i := ((z24 + k)).toNat) (ai_75 _) (by omega) (by omega) (ae_75 _) ok (fun z25 hz25 hl25 hh25 => ?_)
            refine w_aload rfl ?_
            refine w_getR (g_68_16 _) ?_
            refine w_aload rfl ?_
            refine w_getR (g_68_17 _) ?_
            refine w_iload rfl ?_
            refine w_iald (i := (w).toNat) (ai_77 _) (by omega) (by omega) (ae_77 _) ok (fun z26 hz26 hl26 hh26 => ?_)
            refine w_iload rfl ?_
            refine w_add ?_
            refine w_iald (i := ((z26 + k)).toNat) (ai_76 _) (by omega) (by omega) (ae_76 _) ok (fun z27 hz27 hl27 hh27 => ?_)
            refine w_cne (by omega) (fun h28 => ?_) (fun h28 => ?_)
            · skip
              refine w_step rfl ?_
              refine w_push kc_0 ?_
              refine w_goto ?_
              refine w_step rfl ?_
              refine w_istore (lv' := [some (.ref 68), some (.int (jI w)), some (.int (jI (z4 - z5))), some (.int (jI 0)), some (.int (jI k))]) rfl ?_
              refine w_iinc (lv' := [some (.ref 68), some (.int (jI w)), some (.int (jI (z4 - z5))), some (.int (jI 0)), some (.int (jI (k + 1)))]) kc_1 rfl rfl ?_
              refine w_goto ?_
              exact ih5 _ 0 (k + 1)  (by omega) (by omega) (by omega) (by omega) (by omega) (by omega) (by omega)
            refine w_push kc_1 ?_
            refine w_goto ?_
            refine w_step rfl ?_
            refine w_istore (lv' := [some (.ref 68), some (.int (jI w)), some (.int (jI (z4 - z5))), some (.int (jI 1)), some (.int (jI k))]) rfl ?_
            refine w_iinc (lv' := [some (.ref 68), some (.int (jI w)), some (.int (jI (z4 - z5))), some (.int (jI 1)), some (.int (jI (k + 1)))]) kc_1 rfl rfl ?_
            refine w_goto ?_
            exact ih5 _ 1 (k + 1)  (by omega) (by omega) (by omega) (by omega) (by omega) (by omega) (by omega)
        exact key5 97 _ 1 0  (by omega) (by omega) (by omega) (by omega) (by omega) (by omega) (by omega)
    exact key2 4 _ 0 none none none  (by omega) (by omega) (by omega) (by omega)
  refine w_push kc_0 ?_
  refine w_retI rfl ?_
  exact ⟨ok, fr, (by omega), (by omega), (by omega), (by omega), (by omega), (by omega), (by omega)⟩
set_option maxRecDepth 100000 in
set_option maxHeartbeats 4000000 in
theorem c_X9_nameOf {d : Nat} {t : TS} {x : Int}  (ok : OK t) (q0 : -2147483648 ≤ x) (q1 : x ≤ 2147483647) : CI (EX FU (d + 1)) 193 [.ref 68, .int (jI x)] (mk t) (fun z t' => t = t' ∧ (z = nmF (tI t 68 15) x) ∧ (-1 ≤ z) ∧ (z ≤ 2)) := by
  refine CI_ent (d := d + 0) (Bk := bX9_nameOf) (nL := 2) rfl rfl rfl (Nat.le_of_ble_eq_true rfl) ?_
  show Rn _ 1000000 0 [some (.ref 68), some (.int (jI x))] [] _ _
  refine w_step rfl ?_
  refine w_aload rfl ?_
  refine w_getI (g_68_15 _) fe_68_15 ok (fun z1 hz1 hl1 hh1 => ?_)
  have hs2 : z1 = 0 ∨ z1 = 1 ∨ (¬ z1 = 0 ∧ ¬ z1 = 1) := ((Decidable.em (z1 = 0)).elim Or.inl (fun n0 => Or.inr ((Decidable.em (z1 = 1)).elim Or.inl (fun n1 => Or.inr ⟨n0, n1⟩))))
  rcases hs2 with hs2 | hs2 | hs2
  · refine w_sw (n := 1) (lsw_at hs2 (by decide)) ?_
    refine w_step rfl ?_
    refine w_iload rfl ?_
    refine w_push kc_115 ?_
    refine w_cne (by omega) (fun h3 => ?_) (fun h3 => ?_)
    · skip
      refine w_step rfl ?_
      refine w_iload rfl ?_
      refine w_push kc_114 ?_
      refine w_cne (by omega) (fun h4 => ?_) (fun h4 => ?_)
      · skip
        refine w_step rfl ?_
        refine w_iload rfl ?_
        refine w_push kc_107 ?_
        refine w_cne (by omega) (fun h5 => ?_) (fun h5 => ?_)
        · skip
          refine w_step rfl ?_
          refine w_push kc_m1 ?_
          refine w_goto ?_
          refine w_step rfl ?_
          refine w_retI rfl ?_
          exact ⟨rfl, (by unfold nmF; (repeat' split) <;> omega), (by omega), (by omega)⟩
        refine w_push kc_2 ?_
        refine w_goto ?_
        refine w_step rfl ?_
        refine w_retI rfl ?_
        exact ⟨rfl, (by unfold nmF; (repeat' split) <;> omega), (by omega), (by omega)⟩
      refine w_push kc_1 ?_
      refine w_goto ?_
      refine w_step rfl ?_
      refine w_retI rfl ?_
      exact ⟨rfl, (by unfold nmF; (repeat' split) <;> omega), (by omega), (by omega)⟩
    refine w_push kc_0 ?_
    refine w_goto ?_
    refine w_step rfl ?_
    refine w_retI rfl ?_
    exact ⟨rfl, (by unfold nmF; (repeat' split) <;> omega), (by omega), (by omega)⟩
  · refine w_sw (n := 6) (lsw_at hs2 (by decide)) ?_
    refine w_step rfl ?_
    refine w_iload rfl ?_
    refine w_push kc_112 ?_
    refine w_cne (by omega) (fun h6 => ?_) (fun h6 => ?_)
    · skip
      refine w_step rfl ?_
      refine w_iload rfl ?_
      refine w_push kc_109 ?_
      refine w_cne (by omega) (fun h7 => ?_) (fun h7 => ?_)
      · skip
        refine w_step rfl ?_
        refine w_push kc_m1 ?_
        refine w_goto ?_
        refine w_step rfl ?_
        refine w_retI rfl ?_
        exact ⟨rfl, (by unfold nmF; (repeat' split) <;> omega), (by omega), (by omega)⟩
      refine w_push kc_1 ?_
      refine w_goto ?_
      refine w_step rfl ?_
      refine w_retI rfl ?_
      exact ⟨rfl, (by unfold nmF; (repeat' split) <;> omega), (by omega), (by omega)⟩
    refine w_push kc_0 ?_
    refine w_goto ?_
    refine w_step rfl ?_
    refine w_retI rfl ?_
    exact ⟨rfl, (by unfold nmF; (repeat' split) <;> omega), (by omega), (by omega)⟩
  · refine w_sw (n := 10) (lsw_df (by omega) (by simp only [List.mem_cons, List.not_mem_nil, or_false, forall_eq_or_imp, forall_eq]; omega)) ?_
    refine w_step rfl ?_
    refine w_iload rfl ?_
    refine w_push kc_108 ?_
    refine w_cne (by omega) (fun h8 => ?_) (fun h8 => ?_)
    · skip
      refine w_step rfl ?_
      refine w_iload rfl ?_
      refine w_push kc_114 ?_
      refine w_cne (by omega) (fun h9 => ?_) (fun h9 => ?_)
      · skip
        refine w_step rfl ?_
        refine w_iload rfl ?_
        refine w_push kc_116 ?_
        refine w_cne (by omega) (fun h10 => ?_) (fun h10 => ?_)
        · skip
          refine w_step rfl ?_
          refine w_push kc_m1 ?_
          refine w_goto ?_
          refine w_step rfl ?_
          refine w_retI rfl ?_
          exact ⟨rfl, (by unfold nmF; (repeat' split) <;> omega), (by omega), (by omega)⟩
        refine w_push kc_2 ?_
        refine w_goto ?_
        refine w_step rfl ?_
        refine w_retI rfl ?_
        exact ⟨rfl, (by unfold nmF; (repeat' split) <;> omega), (by omega), (by omega)⟩
      refine w_push kc_1 ?_
      refine w_goto ?_
      refine w_step rfl ?_
      refine w_retI rfl ?_
      exact ⟨rfl, (by unfold nmF; (repeat' split) <;> omega), (by omega), (by omega)⟩
    refine w_push kc_0 ?_
    refine w_goto ?_
    refine w_step rfl ?_
    refine w_retI rfl ?_
    exact ⟨rfl, (by unfold nmF; (repeat' split) <;> omega), (by omega), (by omega)⟩
set_option maxRecDepth 100000 in
set_option maxHeartbeats 4000000 in
theorem c_X9_rank {d : Nat} {t : TS} {s : Int}  (ok : OK t) (q0 : -2147483648 ≤ s) (q1 : s ≤ 2147483647) : CI (EX FU (d + 1)) 194 [.int (jI s)] (mk t) (fun z t' => t = t' ∧ (1 ≤ z) ∧ (z ≤ 6)) := by
  refine CI_ent (d := d + 0) (Bk := bX9_rank) (nL := 1) rfl rfl rfl (Nat.le_of_ble_eq_true rfl) ?_
  show Rn _ 1000000 0 [some (.int (jI s))] [] _ _
  refine w_step rfl ?_
  refine w_iload rfl ?_
  refine w_push kc_m1 ?_
  refine w_cne (by omega) (fun h1 => ?_) (fun h1 => ?_)
  · skip
    refine w_step rfl ?_
    refine w_iload rfl ?_
    refine w_push kc_m2 ?_
    refine w_cne (by omega) (fun h2 => ?_) (fun h2 => ?_)
    · skip
      refine w_step rfl ?_
      refine w_iload rfl ?_
      refine w_push kc_m5 ?_
      refine w_clt (by omega) (fun h3 => ?_) (fun h3 => ?_)
      · skip
        refine w_step rfl ?_
        refine w_iload rfl ?_
        refine w_push kc_m7 ?_
        refine w_clt (by omega) (fun h4 => ?_) (fun h4 => ?_)
        · skip
          refine w_step rfl ?_
          refine w_iload rfl ?_
          refine w_push kc_m9 ?_
          refine w_clt (by omega) (fun h5 => ?_) (fun h5 => ?_)
          · skip
            refine w_step rfl ?_
            refine w_push kc_6 ?_
            refine w_goto ?_
            refine w_step rfl ?_
            refine w_retI rfl ?_
            exact ⟨rfl, (by omega), (by omega)⟩
          refine w_push kc_5 ?_
          refine w_goto ?_
          refine w_step rfl ?_
          refine w_retI rfl ?_
          exact ⟨rfl, (by omega), (by omega)⟩
        refine w_push kc_4 ?_
        refine w_goto ?_
        refine w_step rfl ?_
        refine w_retI rfl ?_
        exact ⟨rfl, (by omega), (by omega)⟩
      refine w_push kc_3 ?_
      refine w_goto ?_
      refine w_step rfl ?_
      refine w_retI rfl ?_
      exact ⟨rfl, (by omega), (by omega)⟩
    refine w_push kc_2 ?_
    refine w_goto ?_
    refine w_step rfl ?_
    refine w_retI rfl ?_
    exact ⟨rfl, (by omega), (by omega)⟩
  refine w_push kc_1 ?_
  refine w_goto ?_
  refine w_step rfl ?_
  refine w_retI rfl ?_
  exact ⟨rfl, (by omega), (by omega)⟩
set_option maxRecDepth 100000 in
set_option maxHeartbeats 4000000 in
theorem c_X9_signHere {d : Nat} {t : TS}  (ok : OK t) : CI (EX FU (d + 1)) 196 [.ref 68] (mk t) (fun z t' => t = t' ∧ (-9 ≤ z) ∧ (z ≤ 0)) := by
  refine CI_ent (d := d + 0) (Bk := bX9_signHere) (nL := 1) rfl rfl rfl (Nat.le_of_ble_eq_true rfl) ?_
  show Rn _ 1000000 0 [some (.ref 68)] [] _ _
  refine w_step rfl ?_
  refine w_aload rfl ?_
  refine w_getI (g_68_12 _) fe_68_12 ok (fun z1 hz1 hl1 hh1 => ?_)
  refine w_push kc_3 ?_
  refine w_ceq (by omega) (fun h2 => ?_) (fun h2 => ?_)
  · skip
    refine w_step rfl ?_
    refine w_aload rfl ?_
    refine w_getI (g_68_13 _) fe_68_13 ok (fun z3 hz3 hl3 hh3 => ?_)
    have hs4 : z3 = 38 ∨ z3 = 42 ∨ z3 = 43 ∨ z3 = 45 ∨ z3 = 47 ∨ z3 = 60 ∨ z3 = 61 ∨ z3 = 62 ∨ z3 = 124 ∨ (¬ z3 = 38 ∧ ¬ z3 = 42 ∧ ¬ z3 = 43 ∧ ¬ z3 = 45 ∧ ¬ z3 = 47 ∧ ¬ z3 = 60 ∧ ¬ z3 = 61 ∧ ¬ z3 = 62 ∧ ¬ z3 = 124) := ((Decidable.em (z3 = 38)).elim Or.inl (fun n0 => Or.inr ((Decidable.em (z3 = 42)).elim Or.inl (fun n1 => Or.inr ((Decidable.em (z3 = 43)).elim Or.inl (fun n2 => Or.inr ((Decidable.em (z3 = 45)).elim Or.inl (fun n3 => Or.inr ((Decidable.em (z3 = 47)).elim Or.inl (fun n4 => Or.inr ((Decidable.em (z3 = 60)).elim Or.inl (fun n5 => Or.inr ((Decidable.em (z3 = 61)).elim Or.inl (fun n6 => Or.inr ((Decidable.em (z3 = 62)).elim Or.inl (fun n7 => Or.inr ((Decidable.em (z3 = 124)).elim Or.inl (fun n8 => Or.inr ⟨n0, n1, n2, n3, n4, n5, n6, n7, n8⟩))))))))))))))))))
    rcases hs4 with hs4 | hs4 | hs4 | hs4 | hs4 | hs4 | hs4 | hs4 | hs4 | hs4
    · refine w_sw (n := 3) (lsw_at hs4 (by decide)) ?_
      refine w_step rfl ?_
      refine w_push kc_m2 ?_
      refine w_retI rfl ?_
      exact ⟨rfl, (by omega), (by omega)⟩
    · refine w_sw (n := 9) (lsw_at hs4 (by decide)) ?_
      refine w_step rfl ?_
      refine w_push kc_m8 ?_
      refine w_retI rfl ?_
      exact ⟨rfl, (by omega), (by omega)⟩
    · refine w_sw (n := 7) (lsw_at hs4 (by decide)) ?_
      refine w_step rfl ?_
      refine w_push kc_m6 ?_
      refine w_retI rfl ?_
      exact ⟨rfl, (by omega), (by omega)⟩
    · refine w_sw (n := 8) (lsw_at hs4 (by decide)) ?_
      refine w_step rfl ?_
      refine w_push kc_m7 ?_
      refine w_retI rfl ?_
      exact ⟨rfl, (by omega), (by omega)⟩
    · refine w_sw (n := 10) (lsw_at hs4 (by decide)) ?_
      refine w_step rfl ?_
      refine w_push kc_m9 ?_
      refine w_retI rfl ?_
      exact ⟨rfl, (by omega), (by omega)⟩
    · refine w_sw (n := 4) (lsw_at hs4 (by decide)) ?_
      refine w_step rfl ?_
      refine w_push kc_m3 ?_
      refine w_retI rfl ?_
      exact ⟨rfl, (by omega), (by omega)⟩
    · refine w_sw (n := 5) (lsw_at hs4 (by decide)) ?_
      refine w_step rfl ?_
      refine w_push kc_m4 ?_
      refine w_retI rfl ?_
      exact ⟨rfl, (by omega), (by omega)⟩
    · refine w_sw (n := 6) (lsw_at hs4 (by decide)) ?_
      refine w_step rfl ?_
      refine w_push kc_m5 ?_
      refine w_retI rfl ?_
      exact ⟨rfl, (by omega), (by omega)⟩
    · refine w_sw (n := 2) (lsw_at hs4 (by decide)) ?_
      refine w_step rfl ?_
      refine w_push kc_m1 ?_
      refine w_retI rfl ?_
      exact ⟨rfl, (by omega), (by omega)⟩
    · refine w_sw (n := 11) (lsw_df (by omega) (by simp only [List.mem_cons, List.not_mem_nil, or_false, forall_eq_or_imp, forall_eq]; omega)) ?_
      refine w_step rfl ?_
      refine w_push kc_0 ?_
      refine w_retI rfl ?_
      exact ⟨rfl, (by omega), (by omega)⟩
  refine w_push kc_0 ?_
  refine w_retI rfl ?_
  exact ⟨rfl, (by omega), (by omega)⟩
