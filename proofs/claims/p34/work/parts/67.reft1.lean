set_option maxRecDepth 100000 in
set_option maxHeartbeats 4000000 in
theorem c_X9_isLetter {d : Nat} {t : TS} {k : Int}  (ok : OK t) (q0 : 0 ≤ k) (q1 : k ≤ 96) : CI (EX FU (d + 1)) 189 [.ref 68, .int (jI k)] (mk t) (fun z t' => t = t' ∧ ((z = 0 ∧ ¬ (k < tI t 68 9 ∧ 97 ≤ tA t 75 k.toNat ∧ tA t 75 k.toNat ≤ 122)) ∨ (z = 1 ∧ (k < tI t 68 9 ∧ 97 ≤ tA t 75 k.toNat ∧ tA t 75 k.toNat ≤ 122)))) := by
  refine CI_ent (d := d + 0) (Bk := bX9_isLetter) (nL := 2) rfl rfl rfl (Nat.le_of_ble_eq_true rfl) ?_
  show Rn _ 1000000 0 [some (.ref 68), some (.int (jI k))] [] _ _
  refine w_step rfl ?_
  refine w_iload rfl ?_
  refine w_aload rfl ?_
  refine w_getI (g_68_9 _) fe_68_9 ok (fun z1 hz1 hl1 hh1 => ?_)
  refine w_cge (by omega) (fun h2 => ?_) (fun h2 => ?_)
  · skip
    refine w_step rfl ?_
    refine w_push kc_0 ?_
    refine w_goto ?_
    refine w_step rfl ?_
    refine w_retI rfl ?_
    exact ⟨rfl, (by omega)⟩
  refine w_aload rfl ?_
  refine w_getR (g_68_8 _) ?_
  refine w_iload rfl ?_
  refine w_iald (i := (k).toNat) (ai_75 _) (by omega) (by omega) (ae_75 _) ok (fun z3 hz3 hl3 hh3 => ?_)
  refine w_push kc_97 ?_
  refine w_clt (by omega) (fun h4 => ?_) (fun h4 => ?_)
  · skip
    refine w_step rfl ?_
    refine w_push kc_0 ?_
    refine w_goto ?_
    refine w_step rfl ?_
    refine w_retI rfl ?_
    exact ⟨rfl, (by omega)⟩
  refine w_aload rfl ?_
  refine w_getR (g_68_8 _) ?_
  refine w_iload rfl ?_
  refine w_iald (i := (k).toNat) (ai_75 _) (by omega) (by omega) (ae_75 _) ok (fun z5 hz5 hl5 hh5 => ?_)
  refine w_push kc_122 ?_
  refine w_cgt (by omega) (fun h6 => ?_) (fun h6 => ?_)
  · skip
    refine w_step rfl ?_
    refine w_push kc_0 ?_
    refine w_goto ?_
    refine w_step rfl ?_
    refine w_retI rfl ?_
    exact ⟨rfl, (by omega)⟩
  refine w_push kc_1 ?_
  refine w_goto ?_
  refine w_step rfl ?_
  refine w_retI rfl ?_
  exact ⟨rfl, (by omega)⟩
set_option maxRecDepth 100000 in
set_option maxHeartbeats 4000000 in
theorem c_X9_isFigure {d : Nat} {t : TS} {k : Int}  (ok : OK t) (q0 : 0 ≤ k) (q1 : k ≤ 96) : CI (EX FU (d + 1)) 190 [.ref 68, .int (jI k)] (mk t) (fun z t' => t = t' ∧ ((z = 0 ∧ ¬ (k < tI t 68 9 ∧ 48 ≤ tA t 75 k.toNat ∧ tA t 75 k.toNat ≤ 57)) ∨ (z = 1 ∧ (k < tI t 68 9 ∧ 48 ≤ tA t 75 k.toNat ∧ tA t 75 k.toNat ≤ 57)))) := by
  refine CI_ent (d := d + 0) (Bk := bX9_isFigure) (nL := 2) rfl rfl rfl (Nat.le_of_ble_eq_true rfl) ?_
  show Rn _ 1000000 0 [some (.ref 68), some (.int (jI k))] [] _ _
  refine w_step rfl ?_
  refine w_iload rfl ?_
  refine w_aload rfl ?_
  refine w_getI (g_68_9 _) fe_68_9 ok (fun z1 hz1 hl1 hh1 => ?_)
  refine w_cge (by omega) (fun h2 => ?_) (fun h2 => ?_)
  · skip
    refine w_step rfl ?_
    refine w_push kc_0 ?_
    refine w_goto ?_
    refine w_step rfl ?_
    refine w_retI rfl ?_
    exact ⟨rfl, (by omega)⟩
  refine w_aload rfl ?_
  refine w_getR (g_68_8 _) ?_
  refine w_iload rfl ?_
  refine w_iald (i := (k).toNat) (ai_75 _) (by omega) (by omega) (ae_75 _) ok (fun z3 hz3 hl3 hh3 => ?_)
  refine w_push kc_48 ?_
  refine w_clt (by omega) (fun h4 => ?_) (fun h4 => ?_)
  · skip
    refine w_step rfl ?_
    refine w_push kc_0 ?_
    refine w_goto ?_
    refine w_step rfl ?_
    refine w_retI rfl ?_
    exact ⟨rfl, (by omega)⟩
  refine w_aload rfl ?_
  refine w_getR (g_68_8 _) ?_
  refine w_iload rfl ?_
  refine w_iald (i := (k).toNat) (ai_75 _) (by omega) (by omega) (ae_75 _) ok (fun z5 hz5 hl5 hh5 => ?_)
  refine w_push kc_57 ?_
  refine w_cgt (by omega) (fun h6 => ?_) (fun h6 => ?_)
  · skip
    refine w_step rfl ?_
    refine w_push kc_0 ?_
    refine w_goto ?_
    refine w_step rfl ?_
    refine w_retI rfl ?_
    exact ⟨rfl, (by omega)⟩
  refine w_push kc_1 ?_
  refine w_goto ?_
  refine w_step rfl ?_
  refine w_retI rfl ?_
  exact ⟨rfl, (by omega)⟩
set_option maxRecDepth 100000 in
set_option maxHeartbeats 4000000 in
theorem c_X9_go_k10 {d : Nat} {t : TS}  (ok : OK t) (q0 : tI t 68 10 ≤ tI t 68 9) : ∀ (n10 M10 : Nat) (cl : Int) (t1 : TS), OK t1 → Fr [(68, 10), (68, 11), (68, 12), (68, 13), (68, 14)] t t1 → (tI t1 68 9 = tI t 68 9) → (tI t1 68 11 ≤ tI t1 68 10) → (tI t1 68 10 ≤ tI t 68 9) → (tI t 68 10 ≤ tI t1 68 11) → (0 ≤ cl) → (cl ≤ 1) → (tI t1 68 10 = tI t1 68 11 → (tI t1 68 10 < tI t1 68 9 ∧ 48 ≤ tA t1 75 (tI t1 68 10).toNat ∧ tA t1 75 (tI t1 68 10).toNat ≤ 57)) → ((tI t1 68 10 - tI t1 68 11) ≤ 3 → tI t1 68 13 ≤ 999) → ((tI t1 68 10 - tI t1 68 11) ≤ 2 → tI t1 68 13 ≤ 99) → ((tI t1 68 10 - tI t1 68 11) ≤ 1 → tI t1 68 13 ≤ 9) → ((tI t1 68 10 - tI t1 68 11) ≤ 0 → tI t1 68 13 ≤ 0) → 96 - tI t1 68 10 < (n10 : Int) → 60 * n10 + (1000) ≤ M10 → Rn (bX9_go (EX FU (d + 1))) M10 10 [some (.ref 68), some (.int (jI cl))] [] (mk t1) (PV (fun t' => OK t' ∧ Fr [(68, 10), (68, 11), (68, 12), (68, 13), (68, 14)] t t' ∧ (tI t 68 10 ≤ tI t' 68 11) ∧ (tI t' 68 11 ≤ tI t' 68 10) ∧ (tI t' 68 10 ≤ tI t 68 9) ∧ (tI t' 68 12 = 0 → tI t' 68 11 = tI t 68 9) ∧ (¬ tI t' 68 12 = 0 → tI t' 68 11 < tI t' 68 10))) := by
  have hr9t := ok.f fe_68_9
  intro n10
  induction n10 with
  | zero => intro M10 cl t1 ok1 fr1 i10_0 i10_1 i10_2 i10_3 i10_4 i10_5 i10_6 i10_7 i10_8 i10_9 i10_10 v10 f10; exfalso; omega
  | succ n10 ih10 =>
    intro M10 cl t1 ok1 fr1 i10_0 i10_1 i10_2 i10_3 i10_4 i10_5 i10_6 i10_7 i10_8 i10_9 i10_10 v10 f10
    obtain ⟨M10, rfl⟩ : ∃ m, M10 = m + 60 := ⟨M10 - 60, by omega⟩
    have hr0 := (ok1.f fe_68_10).1
    have hr9 := (ok1.f fe_68_9).2
    have hr13 := (ok1.f fe_68_13)
    refine w_step rfl ?_
    refine w_aload rfl ?_
    refine w_aload rfl ?_
    refine w_getI (g_68_10 _) fe_68_10 ok1 (fun z2 hz2 hl2 hh2 => ?_)
    refine w_callV1I (oj_68 _).choose_spec rfl (c_X9_isFigure ok1 (by omega) (by omega)) ?_
    rintro z3 t3 ⟨rfl, hp3_0⟩
    rcases hp3_0 with ⟨rfl, hp3_0⟩ | ⟨rfl, hp3_0⟩
    · skip
      rw [hz2] at hp3_0
      refine w_ieq (by omega) (fun _ => ?_) (fun h => absurd (by omega) h)
      refine w_step rfl ?_
      refine w_aload rfl ?_
      refine w_iload rfl ?_
      refine w_ine (by omega) (fun h4 => ?_) (fun h4 => ?_)
      · skip
        refine w_step rfl ?_
        refine w_push kc_4 ?_
        refine w_goto ?_
        refine w_step rfl ?_
        refine w_putI (p_68_12 _) fe_68_12 ok1 (by omega) (fun t5 ht5 ok5 => ?_)
        have kf5_68_9 : tI t5 68 9 = tI t1 68 9 := by rw [ht5, tI_uI, if_neg (by decide)]
        have kf5_68_10 : tI t5 68 10 = tI t1 68 10 := by rw [ht5, tI_uI, if_neg (by decide)]
        have kf5_68_11 : tI t5 68 11 = tI t1 68 11 := by rw [ht5, tI_uI, if_neg (by decide)]
        have kf5_68_12 : tI t5 68 12 = 4 := by rw [ht5, tI_uI, if_pos ⟨rfl, rfl⟩]
        have kf5_68_13 : tI t5 68 13 = tI t1 68 13 := by rw [ht5, tI_uI, if_neg (by decide)]
        have kf5_68_14 : tI t5 68 14 = tI t1 68 14 := by rw [ht5, tI_uI, if_neg (by decide)]
        have fr5 := fr1.uI ht5 (by simp)
        refine w_aload rfl ?_
        refine w_aload rfl ?_
        refine w_getI (g_68_10 _) fe_68_10 ok5 (fun z6 hz6 hl6 hh6 => ?_)
        refine w_putI (p_68_14 _) fe_68_14 ok5 (by omega) (fun t7 ht7 ok7 => ?_)
        have kf7_68_9 : tI t7 68 9 = tI t5 68 9 := by rw [ht7, tI_uI, if_neg (by decide)]
        have kf7_68_10 : tI t7 68 10 = tI t5 68 10 := by rw [ht7, tI_uI, if_neg (by decide)]
        have kf7_68_11 : tI t7 68 11 = tI t5 68 11 := by rw [ht7, tI_uI, if_neg (by decide)]
        have kf7_68_12 : tI t7 68 12 = tI t5 68 12 := by rw [ht7, tI_uI, if_neg (by decide)]
        have kf7_68_13 : tI t7 68 13 = tI t5 68 13 := by rw [ht7, tI_uI, if_neg (by decide)]
        have kf7_68_14 : tI t7 68 14 = z6 := by rw [ht7, tI_uI, if_pos ⟨rfl, rfl⟩]
        have fr7 := fr5.uI ht7 (by simp)
        refine w_goto ?_
        refine w_step rfl ?_
        refine w_retV ?_
        exact ⟨ok7, fr7, (by omega), (by omega), (by omega), (by omega), (by omega)⟩
      refine w_aload rfl ?_
      refine w_getI (g_68_10 _) fe_68_10 ok1 (fun z8 hz8 hl8 hh8 => ?_)
      refine w_aload rfl ?_
      refine w_getI (g_68_11 _) fe_68_11 ok1 (fun z9 hz9 hl9 hh9 => ?_)
      refine w_sub ?_
      refine w_push kc_4 ?_
      refine w_cle (by omega) (fun h10 => ?_) (fun h10 => ?_)
      · skip
        refine w_step rfl ?_
        refine w_push kc_2 ?_
        refine w_goto ?_
        refine w_step rfl ?_
        refine w_putI (p_68_12 _) fe_68_12 ok1 (by omega) (fun t11 ht11 ok11 => ?_)
        have kf11_68_9 : tI t11 68 9 = tI t1 68 9 := by rw [ht11, tI_uI, if_neg (by decide)]
        have kf11_68_10 : tI t11 68 10 = tI t1 68 10 := by rw [ht11, tI_uI, if_neg (by decide)]
        have kf11_68_11 : tI t11 68 11 = tI t1 68 11 := by rw [ht11, tI_uI, if_neg (by decide)]
        have kf11_68_12 : tI t11 68 12 = 2 := by rw [ht11, tI_uI, if_pos ⟨rfl, rfl⟩]
        have kf11_68_13 : tI t11 68 13 = tI t1 68 13 := by rw [ht11, tI_uI, if_neg (by decide)]
        have kf11_68_14 : tI t11 68 14 = tI t1 68 14 := by rw [ht11, tI_uI, if_neg (by decide)]
        have fr11 := fr1.uI ht11 (by simp)
        refine w_aload rfl ?_
        refine w_aload rfl ?_
        refine w_getI (g_68_10 _) fe_68_10 ok11 (fun z12 hz12 hl12 hh12 => ?_)
        refine w_putI (p_68_14 _) fe_68_14 ok11 (by omega) (fun t13 ht13 ok13 => ?_)
        have kf13_68_9 : tI t13 68 9 = tI t11 68 9 := by rw [ht13, tI_uI, if_neg (by decide)]
        have kf13_68_10 : tI t13 68 10 = tI t11 68 10 := by rw [ht13, tI_uI, if_neg (by decide)]
        have kf13_68_11 : tI t13 68 11 = tI t11 68 11 := by rw [ht13, tI_uI, if_neg (by decide)]
        have kf13_68_12 : tI t13 68 12 = tI t11 68 12 := by rw [ht13, tI_uI, if_neg (by decide)]
        have kf13_68_13 : tI t13 68 13 = tI t11 68 13 := by rw [ht13, tI_uI, if_neg (by decide)]
        have kf13_68_14 : tI t13 68 14 = z12 := by rw [ht13, tI_uI, if_pos ⟨rfl, rfl⟩]
        have fr13 := fr11.uI ht13 (by simp)
        refine w_goto ?_
        refine w_step rfl ?_
        refine w_retV ?_
        exact ⟨ok13, fr13, (by omega), (by omega), (by omega), (by omega), (by omega)⟩
      refine w_goto ?_
      refine w_step rfl ?_
      refine w_push kc_4 ?_
      refine w_goto ?_
      refine w_step rfl ?_
      refine w_putI (p_68_12 _) fe_68_12 ok1 (by omega) (fun t14 ht14 ok14 => ?_)
      have kf14_68_9 : tI t14 68 9 = tI t1 68 9 := by rw [ht14, tI_uI, if_neg (by decide)]
      have kf14_68_10 : tI t14 68 10 = tI t1 68 10 := by rw [ht14, tI_uI, if_neg (by decide)]
      have kf14_68_11 : tI t14 68 11 = tI t1 68 11 := by rw [ht14, tI_uI, if_neg (by decide)]
      have kf14_68_12 : tI t14 68 12 = 4 := by rw [ht14, tI_uI, if_pos ⟨rfl, rfl⟩]
      have kf14_68_13 : tI t14 68 13 = tI t1 68 13 := by rw [ht14, tI_uI, if_neg (by decide)]
      have kf14_68_14 : tI t14 68 14 = tI t1 68 14 := by rw [ht14, tI_uI, if_neg (by decide)]
      have fr14 := fr1.uI ht14 (by simp)
      refine w_aload rfl ?_
      refine w_aload rfl ?_
      refine w_getI (g_68_10 _) fe_68_10 ok14 (fun z15 hz15 hl15 hh15 => ?_)
      refine w_putI (p_68_14 _) fe_68_14 ok14 (by omega) (fun t16 ht16 ok16 => ?_)
      have kf16_68_9 : tI t16 68 9 = tI t14 68 9 := by rw [ht16, tI_uI, if_neg (by decide)]
      have kf16_68_10 : tI t16 68 10 = tI t14 68 10 := by rw [ht16, tI_uI, if_neg (by decide)]
      have kf16_68_11 : tI t16 68 11 = tI t14 68 11 := by rw [ht16, tI_uI, if_neg (by decide)]
      have kf16_68_12 : tI t16 68 12 = tI t14 68 12 := by rw [ht16, tI_uI, if_neg (by decide)]
      have kf16_68_13 : tI t16 68 13 = tI t14 68 13 := by rw [ht16, tI_uI, if_neg (by decide)]
      have kf16_68_14 : tI t16 68 14 = z15 := by rw [ht16, tI_uI, if_pos ⟨rfl, rfl⟩]
      have fr16 := fr14.uI ht16 (by simp)
      refine w_goto ?_
      refine w_step rfl ?_
      refine w_retV ?_
      exact ⟨ok16, fr16, (by omega), (by omega), (by omega), (by omega), (by omega)⟩
    rw [hz2] at hp3_0
    refine w_ieq (by omega) (fun h => absurd h (by omega)) (fun _ => ?_)
    refine w_aload rfl ?_
    refine w_aload rfl ?_
    refine w_getI (g_68_10 _) fe_68_10 ok1 (fun z17 hz17 hl17 hh17 => ?_)
    refine w_aload rfl ?_
    refine w_getI (g_68_11 _) fe_68_11 ok1 (fun z18 hz18 hl18 hh18 => ?_)
    refine w_sub ?_
    refine w_push kc_4 ?_
    refine w_cge (by omega) (fun h19 => ?_) (fun h19 => ?_)
    · skip
      refine w_step rfl ?_
      refine w_aload rfl ?_
      refine w_getI (g_68_13 _) fe_68_13 ok1 (fun z20 hz20 hl20 hh20 => ?_)
      refine w_goto ?_
      refine w_step rfl ?_
      refine w_putI (p_68_13 _) fe_68_13 ok1 (by omega) (fun t21 ht21 ok21 => ?_)
      have kf21_68_9 : tI t21 68 9 = tI t1 68 9 := by rw [ht21, tI_uI, if_neg (by decide)]
      have kf21_68_10 : tI t21 68 10 = tI t1 68 10 := by rw [ht21, tI_uI, if_neg (by decide)]
      have kf21_68_11 : tI t21 68 11 = tI t1 68 11 := by rw [ht21, tI_uI, if_neg (by decide)]
      have kf21_68_12 : tI t21 68 12 = tI t1 68 12 := by rw [ht21, tI_uI, if_neg (by decide)]
      have kf21_68_13 : tI t21 68 13 = z20 := by rw [ht21, tI_uI, if_pos ⟨rfl, rfl⟩]
      have kf21_68_14 : tI t21 68 14 = tI t1 68 14 := by rw [ht21, tI_uI, if_neg (by decide)]
      have fr21 := fr1.uI ht21 (by simp)
      refine w_aload rfl ?_
      refine w_dupR ?_
      refine w_getI (g_68_10 _) fe_68_10 ok21 (fun z22 hz22 hl22 hh22 => ?_)
      refine w_push kc_1 ?_
      refine w_add ?_
      refine w_putI (p_68_10 _) fe_68_10 ok21 (by omega) (fun t23 ht23 ok23 => ?_)
      have kf23_68_9 : tI t23 68 9 = tI t21 68 9 := by rw [ht23, tI_uI, if_neg (by decide)]
      have kf23_68_10 : tI t23 68 10 = (z22 + 1) := by rw [ht23, tI_uI, if_pos ⟨rfl, rfl⟩]
      have kf23_68_11 : tI t23 68 11 = tI t21 68 11 := by rw [ht23, tI_uI, if_neg (by decide)]
      have kf23_68_12 : tI t23 68 12 = tI t21 68 12 := by rw [ht23, tI_uI, if_neg (by decide)]
      have kf23_68_13 : tI t23 68 13 = tI t21 68 13 := by rw [ht23, tI_uI, if_neg (by decide)]
      have kf23_68_14 : tI t23 68 14 = tI t21 68 14 := by rw [ht23, tI_uI, if_neg (by decide)]
      have fr23 := fr21.uI ht23 (by simp)
      refine w_goto ?_
      exact ih10 _ cl t23 ok23 fr23 (by omega) (by omega) (by omega) (by omega) (by omega) (by omega) (by intro e9; omega) (by omega) (by omega) (by omega) (by omega) (by omega) (by omega)
    refine w_push kc_10 ?_
    refine w_aload rfl ?_
    refine w_getI (g_68_13 _) fe_68_13 ok1 (fun z24 hz24 hl24 hh24 => ?_)
    refine w_mul ?_
    refine w_aload rfl ?_
    refine w_getR (g_68_8 _) ?_
    refine w_aload rfl ?_
    refine w_getI (g_68_10 _) fe_68_10 ok1 (fun z25 hz25 hl25 hh25 => ?_)
    refine w_iald (i := (z25).toNat) (ai_75 _) (by omega) (by omega) (ae_75 _) ok1 (fun z26 hz26 hl26 hh26 => ?_)
    rw [hz25] at hz26
    refine w_add ?_
    refine w_push kc_48 ?_
    refine w_sub ?_
    refine w_goto ?_
    refine w_step rfl ?_
    refine w_putI (p_68_13 _) fe_68_13 ok1 (by omega) (fun t27 ht27 ok27 => ?_)
    have kf27_68_9 : tI t27 68 9 = tI t1 68 9 := by rw [ht27, tI_uI, if_neg (by decide)]
    have kf27_68_10 : tI t27 68 10 = tI t1 68 10 := by rw [ht27, tI_uI, if_neg (by decide)]
    have kf27_68_11 : tI t27 68 11 = tI t1 68 11 := by rw [ht27, tI_uI, if_neg (by decide)]
    have kf27_68_12 : tI t27 68 12 = tI t1 68 12 := by rw [ht27, tI_uI, if_neg (by decide)]
    have kf27_68_13 : tI t27 68 13 = (((10 * z24) + z26) - 48) := by rw [ht27, tI_uI, if_pos ⟨rfl, rfl⟩]
    have kf27_68_14 : tI t27 68 14 = tI t1 68 14 := by rw [ht27, tI_uI, if_neg (by decide)]
    have fr27 := fr1.uI ht27 (by simp)
    refine w_aload rfl ?_
    refine w_dupR ?_
    refine w_getI (g_68_10 _) fe_68_10 ok27 (fun z28 hz28 hl28 hh28 => ?_)
    refine w_push kc_1 ?_
    refine w_add ?_
    refine w_putI (p_68_10 _) fe_68_10 ok27 (by omega) (fun t29 ht29 ok29 => ?_)
    have kf29_68_9 : tI t29 68 9 = tI t27 68 9 := by rw [ht29, tI_uI, if_neg (by decide)]
    have kf29_68_10 : tI t29 68 10 = (z28 + 1) := by rw [ht29, tI_uI, if_pos ⟨rfl, rfl⟩]
    have kf29_68_11 : tI t29 68 11 = tI t27 68 11 := by rw [ht29, tI_uI, if_neg (by decide)]
    have kf29_68_12 : tI t29 68 12 = tI t27 68 12 := by rw [ht29, tI_uI, if_neg (by decide)]
    have kf29_68_13 : tI t29 68 13 = tI t27 68 13 := by rw [ht29, tI_uI, if_neg (by decide)]
    have kf29_68_14 : tI t29 68 14 = tI t27 68 14 := by rw [ht29, tI_uI, if_neg (by decide)]
    have fr29 := fr27.uI ht29 (by simp)
    refine w_goto ?_
    exact ih10 _ cl t29 ok29 fr29 (by omega) (by omega) (by omega) (by omega) (by omega) (by omega) (by intro e9; omega) (by omega) (by omega) (by omega) (by omega) (by omega) (by omega)
set_option maxRecDepth 100000 in
set_option maxHeartbeats 4000000 in
theorem c_X9_go_k5 {d : Nat} {t : TS}  (ok : OK t) (q0 : tI t 68 10 ≤ tI t 68 9) : ∀ (n5 M5 : Nat) (cl : Int) (t30 : TS), OK t30 → Fr [(68, 10), (68, 11), (68, 12), (68, 13), (68, 14)] t t30 → (tI t30 68 9 = tI t 68 9) → (tI t30 68 11 ≤ tI t30 68 10) → (tI t30 68 10 ≤ tI t 68 9) → (tI t 68 10 ≤ tI t30 68 11) → (0 ≤ cl) → (cl ≤ 1) → (tI t30 68 10 = tI t30 68 11 → (tI t30 68 10 < tI t30 68 9 ∧ 97 ≤ tA t30 75 (tI t30 68 10).toNat ∧ tA t30 75 (tI t30 68 10).toNat ≤ 122)) → 96 - tI t30 68 10 < (n5 : Int) → 60 * n5 + (1000) ≤ M5 → Rn (bX9_go (EX FU (d + 1))) M5 5 [some (.ref 68), some (.int (jI cl))] [] (mk t30) (PV (fun t' => OK t' ∧ Fr [(68, 10), (68, 11), (68, 12), (68, 13), (68, 14)] t t' ∧ (tI t 68 10 ≤ tI t' 68 11) ∧ (tI t' 68 11 ≤ tI t' 68 10) ∧ (tI t' 68 10 ≤ tI t 68 9) ∧ (tI t' 68 12 = 0 → tI t' 68 11 = tI t 68 9) ∧ (¬ tI t' 68 12 = 0 → tI t' 68 11 < tI t' 68 10))) := by
  have hr9t := ok.f fe_68_9
  intro n5
  induction n5 with
  | zero => intro M5 cl t30 ok30 fr30 i5_0 i5_1 i5_2 i5_3 i5_4 i5_5 i5_6 v5 f5; exfalso; omega
  | succ n5 ih5 =>
    intro M5 cl t30 ok30 fr30 i5_0 i5_1 i5_2 i5_3 i5_4 i5_5 i5_6 v5 f5
    obtain ⟨M5, rfl⟩ : ∃ m, M5 = m + 60 := ⟨M5 - 60, by omega⟩
    have hr0 := (ok30.f fe_68_10).1
    have hr9 := (ok30.f fe_68_9).2
    refine w_step rfl ?_
    refine w_aload rfl ?_
    refine w_aload rfl ?_
    refine w_getI (g_68_10 _) fe_68_10 ok30 (fun z31 hz31 hl31 hh31 => ?_)
    refine w_callV1I (oj_68 _).choose_spec rfl (c_X9_isLetter ok30 (by omega) (by omega)) ?_
    rintro z32 t32 ⟨rfl, hp32_0⟩
    rcases hp32_0 with ⟨rfl, hp32_0⟩ | ⟨rfl, hp32_0⟩
    · skip
      rw [hz31] at hp32_0
      refine w_ieq (by omega) (fun _ => ?_) (fun h => absurd (by omega) h)
      refine w_step rfl ?_
      refine w_aload rfl ?_
      refine w_iload rfl ?_
      refine w_ieq (by omega) (fun h33 => ?_) (fun h33 => ?_)
      · skip
        refine w_step rfl ?_
        refine w_push kc_1 ?_
        refine w_goto ?_
        refine w_step rfl ?_
        refine w_putI (p_68_12 _) fe_68_12 ok30 (by omega) (fun t34 ht34 ok34 => ?_)
        have kf34_68_9 : tI t34 68 9 = tI t30 68 9 := by rw [ht34, tI_uI, if_neg (by decide)]
        have kf34_68_10 : tI t34 68 10 = tI t30 68 10 := by rw [ht34, tI_uI, if_neg (by decide)]
        have kf34_68_11 : tI t34 68 11 = tI t30 68 11 := by rw [ht34, tI_uI, if_neg (by decide)]
        have kf34_68_12 : tI t34 68 12 = 1 := by rw [ht34, tI_uI, if_pos ⟨rfl, rfl⟩]
        have kf34_68_13 : tI t34 68 13 = tI t30 68 13 := by rw [ht34, tI_uI, if_neg (by decide)]
        have kf34_68_14 : tI t34 68 14 = tI t30 68 14 := by rw [ht34, tI_uI, if_neg (by decide)]
        have fr34 := fr30.uI ht34 (by simp)
        refine w_aload rfl ?_
        refine w_aload rfl ?_
        refine w_getR (g_68_8 _) ?_
        refine w_aload rfl ?_
        refine w_getI (g_68_11 _) fe_68_11 ok34 (fun z35 hz35 hl35 hh35 => ?_)
        refine w_iald (i := (z35).toNat) (ai_75 _) (by omega) (by omega) (ae_75 _) ok34 (fun z36 hz36 hl36 hh36 => ?_)
        refine w_putI (p_68_13 _) fe_68_13 ok34 (by omega) (fun t37 ht37 ok37 => ?_)
        have kf37_68_9 : tI t37 68 9 = tI t34 68 9 := by rw [ht37, tI_uI, if_neg (by decide)]
        have kf37_68_10 : tI t37 68 10 = tI t34 68 10 := by rw [ht37, tI_uI, if_neg (by decide)]
        have kf37_68_11 : tI t37 68 11 = tI t34 68 11 := by rw [ht37, tI_uI, if_neg (by decide)]
        have kf37_68_12 : tI t37 68 12 = tI t34 68 12 := by rw [ht37, tI_uI, if_neg (by decide)]
        have kf37_68_13 : tI t37 68 13 = z36 := by rw [ht37, tI_uI, if_pos ⟨rfl, rfl⟩]
        have kf37_68_14 : tI t37 68 14 = tI t34 68 14 := by rw [ht37, tI_uI, if_neg (by decide)]
        have fr37 := fr34.uI ht37 (by simp)
        refine w_aload rfl ?_
        refine w_aload rfl ?_
        refine w_getI (g_68_10 _) fe_68_10 ok37 (fun z38 hz38 hl38 hh38 => ?_)
        refine w_putI (p_68_14 _) fe_68_14 ok37 (by omega) (fun t39 ht39 ok39 => ?_)
        have kf39_68_9 : tI t39 68 9 = tI t37 68 9 := by rw [ht39, tI_uI, if_neg (by decide)]
        have kf39_68_10 : tI t39 68 10 = tI t37 68 10 := by rw [ht39, tI_uI, if_neg (by decide)]
        have kf39_68_11 : tI t39 68 11 = tI t37 68 11 := by rw [ht39, tI_uI, if_neg (by decide)]
        have kf39_68_12 : tI t39 68 12 = tI t37 68 12 := by rw [ht39, tI_uI, if_neg (by decide)]
        have kf39_68_13 : tI t39 68 13 = tI t37 68 13 := by rw [ht39, tI_uI, if_neg (by decide)]
        have kf39_68_14 : tI t39 68 14 = z38 := by rw [ht39, tI_uI, if_pos ⟨rfl, rfl⟩]
        have fr39 := fr37.uI ht39 (by simp)
        refine w_goto ?_
        refine w_step rfl ?_
        refine w_retV ?_
        exact ⟨ok39, fr39, (by omega), (by omega), (by omega), (by omega), (by omega)⟩
      refine w_push kc_4 ?_
      refine w_goto ?_
      refine w_step rfl ?_
      refine w_putI (p_68_12 _) fe_68_12 ok30 (by omega) (fun t40 ht40 ok40 => ?_)
      have kf40_68_9 : tI t40 68 9 = tI t30 68 9 := by rw [ht40, tI_uI, if_neg (by decide)]
      have kf40_68_10 : tI t40 68 10 = tI t30 68 10 := by rw [ht40, tI_uI, if_neg (by decide)]
      have kf40_68_11 : tI t40 68 11 = tI t30 68 11 := by rw [ht40, tI_uI, if_neg (by decide)]
      have kf40_68_12 : tI t40 68 12 = 4 := by rw [ht40, tI_uI, if_pos ⟨rfl, rfl⟩]
      have kf40_68_13 : tI t40 68 13 = tI t30 68 13 := by rw [ht40, tI_uI, if_neg (by decide)]
      have kf40_68_14 : tI t40 68 14 = tI t30 68 14 := by rw [ht40, tI_uI, if_neg (by decide)]
      have fr40 := fr30.uI ht40 (by simp)
      refine w_aload rfl ?_
      refine w_aload rfl ?_
      refine w_getR (g_68_8 _) ?_
      refine w_aload rfl ?_
      refine w_getI (g_68_11 _) fe_68_11 ok40 (fun z41 hz41 hl41 hh41 => ?_)
      refine w_iald (i := (z41).toNat) (ai_75 _) (by omega) (by omega) (ae_75 _) ok40 (fun z42 hz42 hl42 hh42 => ?_)
      refine w_putI (p_68_13 _) fe_68_13 ok40 (by omega) (fun t43 ht43 ok43 => ?_)
      have kf43_68_9 : tI t43 68 9 = tI t40 68 9 := by rw [ht43, tI_uI, if_neg (by decide)]
      have kf43_68_10 : tI t43 68 10 = tI t40 68 10 := by rw [ht43, tI_uI, if_neg (by decide)]
      have kf43_68_11 : tI t43 68 11 = tI t40 68 11 := by rw [ht43, tI_uI, if_neg (by decide)]
      have kf43_68_12 : tI t43 68 12 = tI t40 68 12 := by rw [ht43, tI_uI, if_neg (by decide)]
      have kf43_68_13 : tI t43 68 13 = z42 := by rw [ht43, tI_uI, if_pos ⟨rfl, rfl⟩]
      have kf43_68_14 : tI t43 68 14 = tI t40 68 14 := by rw [ht43, tI_uI, if_neg (by decide)]
      have fr43 := fr40.uI ht43 (by simp)
      refine w_aload rfl ?_
      refine w_aload rfl ?_
      refine w_getI (g_68_10 _) fe_68_10 ok43 (fun z44 hz44 hl44 hh44 => ?_)
      refine w_putI (p_68_14 _) fe_68_14 ok43 (by omega) (fun t45 ht45 ok45 => ?_)
      have kf45_68_9 : tI t45 68 9 = tI t43 68 9 := by rw [ht45, tI_uI, if_neg (by decide)]
      have kf45_68_10 : tI t45 68 10 = tI t43 68 10 := by rw [ht45, tI_uI, if_neg (by decide)]
      have kf45_68_11 : tI t45 68 11 = tI t43 68 11 := by rw [ht45, tI_uI, if_neg (by decide)]
      have kf45_68_12 : tI t45 68 12 = tI t43 68 12 := by rw [ht45, tI_uI, if_neg (by decide)]
      have kf45_68_13 : tI t45 68 13 = tI t43 68 13 := by rw [ht45, tI_uI, if_neg (by decide)]
      have kf45_68_14 : tI t45 68 14 = z44 := by rw [ht45, tI_uI, if_pos ⟨rfl, rfl⟩]
      have fr45 := fr43.uI ht45 (by simp)
      refine w_goto ?_
      refine w_step rfl ?_
      refine w_retV ?_
      exact ⟨ok45, fr45, (by omega), (by omega), (by omega), (by omega), (by omega)⟩
    rw [hz31] at hp32_0
    refine w_ieq (by omega) (fun h => absurd h (by omega)) (fun _ => ?_)
    refine w_aload rfl ?_
    refine w_dupR ?_
    refine w_getI (g_68_10 _) fe_68_10 ok30 (fun z46 hz46 hl46 hh46 => ?_)
    refine w_push kc_1 ?_
    refine w_add ?_
    refine w_putI (p_68_10 _) fe_68_10 ok30 (by omega) (fun t47 ht47 ok47 => ?_)
    have kf47_68_9 : tI t47 68 9 = tI t30 68 9 := by rw [ht47, tI_uI, if_neg (by decide)]
    have kf47_68_10 : tI t47 68 10 = (z46 + 1) := by rw [ht47, tI_uI, if_pos ⟨rfl, rfl⟩]
    have kf47_68_11 : tI t47 68 11 = tI t30 68 11 := by rw [ht47, tI_uI, if_neg (by decide)]
    have kf47_68_12 : tI t47 68 12 = tI t30 68 12 := by rw [ht47, tI_uI, if_neg (by decide)]
    have kf47_68_13 : tI t47 68 13 = tI t30 68 13 := by rw [ht47, tI_uI, if_neg (by decide)]
    have kf47_68_14 : tI t47 68 14 = tI t30 68 14 := by rw [ht47, tI_uI, if_neg (by decide)]
    have fr47 := fr30.uI ht47 (by simp)
    refine w_goto ?_
    exact ih5 _ cl t47 ok47 fr47 (by omega) (by omega) (by omega) (by omega) (by omega) (by omega) (by intro e9; omega) (by omega) (by omega)
set_option maxRecDepth 100000 in
set_option maxHeartbeats 4000000 in
theorem c_X9_go_k4 {d : Nat} {t : TS}  (ok : OK t) (q0 : tI t 68 10 ≤ tI t 68 9) : ∀ (M4 : Nat) (cl : Int) (t48 : TS), OK t48 → Fr [(68, 10), (68, 11), (68, 12), (68, 13), (68, 14)] t t48 → (tI t48 68 9 = tI t 68 9) → (tI t48 68 11 = tI t48 68 10) → (tI t48 68 10 < tI t 68 9) → (tI t 68 10 ≤ tI t48 68 11) → (0 ≤ cl) → (cl ≤ 1) → 20000 ≤ M4 → Rn (bX9_go (EX FU (d + 1))) M4 4 [some (.ref 68), some (.int (jI cl))] [] (mk t48) (PV (fun t' => OK t' ∧ Fr [(68, 10), (68, 11), (68, 12), (68, 13), (68, 14)] t t' ∧ (tI t 68 10 ≤ tI t' 68 11) ∧ (tI t' 68 11 ≤ tI t' 68 10) ∧ (tI t' 68 10 ≤ tI t 68 9) ∧ (tI t' 68 12 = 0 → tI t' 68 11 = tI t 68 9) ∧ (¬ tI t' 68 12 = 0 → tI t' 68 11 < tI t' 68 10))) := by
  have hr9t := ok.f fe_68_9
  intro M4 cl t48 ok48 fr48 i4_0 i4_1 i4_2 i4_3 i4_4 i4_5 f4
  obtain ⟨M4, rfl⟩ : ∃ m, M4 = m + 60 := ⟨M4 - 60, by omega⟩
  have hr0 := (ok48.f fe_68_10).1
  have hr9 := (ok48.f fe_68_9).2
  refine w_step rfl ?_
  refine w_aload rfl ?_
  refine w_aload rfl ?_
  refine w_getI (g_68_11 _) fe_68_11 ok48 (fun z49 hz49 hl49 hh49 => ?_)
  refine w_callV1I (oj_68 _).choose_spec rfl (c_X9_isLetter ok48 (by omega) (by omega)) ?_
  rintro z50 t50 ⟨rfl, hp50_0⟩
  rcases hp50_0 with ⟨rfl, hp50_0⟩ | ⟨rfl, hp50_0⟩
  · skip
    rw [hz49] at hp50_0
    refine w_ieq (by omega) (fun _ => ?_) (fun h => absurd (by omega) h)
    refine w_step rfl ?_
    refine w_aload rfl ?_
    refine w_aload rfl ?_
    refine w_getI (g_68_11 _) fe_68_11 ok48 (fun z51 hz51 hl51 hh51 => ?_)
    refine w_callV1I (oj_68 _).choose_spec rfl (c_X9_isFigure ok48 (by omega) (by omega)) ?_
    rintro z52 t52 ⟨rfl, hp52_0⟩
    rcases hp52_0 with ⟨rfl, hp52_0⟩ | ⟨rfl, hp52_0⟩
    · skip
      rw [hz51] at hp52_0
      refine w_ieq (by omega) (fun _ => ?_) (fun h => absurd (by omega) h)
      refine w_step rfl ?_
      refine w_aload rfl ?_
      refine w_push kc_3 ?_
      refine w_putI (p_68_12 _) fe_68_12 ok48 (by omega) (fun t53 ht53 ok53 => ?_)
      have kf53_68_9 : tI t53 68 9 = tI t48 68 9 := by rw [ht53, tI_uI, if_neg (by decide)]
      have kf53_68_10 : tI t53 68 10 = tI t48 68 10 := by rw [ht53, tI_uI, if_neg (by decide)]
      have kf53_68_11 : tI t53 68 11 = tI t48 68 11 := by rw [ht53, tI_uI, if_neg (by decide)]
      have kf53_68_12 : tI t53 68 12 = 3 := by rw [ht53, tI_uI, if_pos ⟨rfl, rfl⟩]
      have kf53_68_13 : tI t53 68 13 = tI t48 68 13 := by rw [ht53, tI_uI, if_neg (by decide)]
      have kf53_68_14 : tI t53 68 14 = tI t48 68 14 := by rw [ht53, tI_uI, if_neg (by decide)]
      have fr53 := fr48.uI ht53 (by simp)
      refine w_aload rfl ?_
      refine w_aload rfl ?_
      refine w_getR (g_68_8 _) ?_
      refine w_aload rfl ?_
      refine w_getI (g_68_11 _) fe_68_11 ok53 (fun z54 hz54 hl54 hh54 => ?_)
      refine w_iald (i := (z54).toNat) (ai_75 _) (by omega) (by omega) (ae_75 _) ok53 (fun z55 hz55 hl55 hh55 => ?_)
      refine w_putI (p_68_13 _) fe_68_13 ok53 (by omega) (fun t56 ht56 ok56 => ?_)
      have kf56_68_9 : tI t56 68 9 = tI t53 68 9 := by rw [ht56, tI_uI, if_neg (by decide)]
      have kf56_68_10 : tI t56 68 10 = tI t53 68 10 := by rw [ht56, tI_uI, if_neg (by decide)]
      have kf56_68_11 : tI t56 68 11 = tI t53 68 11 := by rw [ht56, tI_uI, if_neg (by decide)]
      have kf56_68_12 : tI t56 68 12 = tI t53 68 12 := by rw [ht56, tI_uI, if_neg (by decide)]
      have kf56_68_13 : tI t56 68 13 = z55 := by rw [ht56, tI_uI, if_pos ⟨rfl, rfl⟩]
      have kf56_68_14 : tI t56 68 14 = tI t53 68 14 := by rw [ht56, tI_uI, if_neg (by decide)]
      have fr56 := fr53.uI ht56 (by simp)
      refine w_aload rfl ?_
      refine w_dupR ?_
      refine w_getI (g_68_10 _) fe_68_10 ok56 (fun z57 hz57 hl57 hh57 => ?_)
      refine w_push kc_1 ?_
      refine w_add ?_
      refine w_putI (p_68_10 _) fe_68_10 ok56 (by omega) (fun t58 ht58 ok58 => ?_)
      have kf58_68_9 : tI t58 68 9 = tI t56 68 9 := by rw [ht58, tI_uI, if_neg (by decide)]
      have kf58_68_10 : tI t58 68 10 = (z57 + 1) := by rw [ht58, tI_uI, if_pos ⟨rfl, rfl⟩]
      have kf58_68_11 : tI t58 68 11 = tI t56 68 11 := by rw [ht58, tI_uI, if_neg (by decide)]
      have kf58_68_12 : tI t58 68 12 = tI t56 68 12 := by rw [ht58, tI_uI, if_neg (by decide)]
      have kf58_68_13 : tI t58 68 13 = tI t56 68 13 := by rw [ht58, tI_uI, if_neg (by decide)]
      have kf58_68_14 : tI t58 68 14 = tI t56 68 14 := by rw [ht58, tI_uI, if_neg (by decide)]
      have fr58 := fr56.uI ht58 (by simp)
      refine w_goto ?_
      refine w_step rfl ?_
      refine w_retV ?_
      exact ⟨ok58, fr58, (by omega), (by omega), (by omega), (by omega), (by omega)⟩
    rw [hz51] at hp52_0
    refine w_ieq (by omega) (fun h => absurd h (by omega)) (fun _ => ?_)
    refine w_aload rfl ?_
    refine w_push kc_0 ?_
    refine w_putI (p_68_13 _) fe_68_13 ok48 (by omega) (fun t59 ht59 ok59 => ?_)
    have kf59_68_9 : tI t59 68 9 = tI t48 68 9 := by rw [ht59, tI_uI, if_neg (by decide)]
    have kf59_68_10 : tI t59 68 10 = tI t48 68 10 := by rw [ht59, tI_uI, if_neg (by decide)]
    have kf59_68_11 : tI t59 68 11 = tI t48 68 11 := by rw [ht59, tI_uI, if_neg (by decide)]
    have kf59_68_12 : tI t59 68 12 = tI t48 68 12 := by rw [ht59, tI_uI, if_neg (by decide)]
    have kf59_68_13 : tI t59 68 13 = 0 := by rw [ht59, tI_uI, if_pos ⟨rfl, rfl⟩]
    have kf59_68_14 : tI t59 68 14 = tI t48 68 14 := by rw [ht59, tI_uI, if_neg (by decide)]
    have fr59 := fr48.uI ht59 (by simp)
    have hq9 : 48 ≤ tA t59 75 (tI t59 68 11).toNat ∧ tA t59 75 (tI t59 68 11).toNat ≤ 57 := by rw [ht59, tA_uI, tI_uI, if_neg (by decide)]; omega
    refine w_goto ?_
    have hr0 := (ok59.f fe_68_10).1
    exact c_X9_go_k10 (d := d) ok q0 97 _ cl t59 ok59 fr59 (by omega) (by omega) (by omega) (by omega) (by omega) (by omega) (by intro e9; rw [e9]; omega) (by omega) (by omega) (by omega) (by omega) (by omega) (by omega)
  rw [hz49] at hp50_0
  refine w_ieq (by omega) (fun h => absurd h (by omega)) (fun _ => ?_)
  refine w_goto ?_
  have hr0 := (ok48.f fe_68_10).1
  exact c_X9_go_k5 (d := d) ok q0 97 _ cl t48 ok48 fr48 (by omega) (by omega) (by omega) (by omega) (by omega) (by omega) (by intro e9; rw [e9]; omega) (by omega) (by omega)
set_option maxRecDepth 100000 in
set_option maxHeartbeats 4000000 in
theorem c_X9_go_k0 {d : Nat} {t : TS}  (ok : OK t) (q0 : tI t 68 10 ≤ tI t 68 9) : ∀ (n0 M0 : Nat) (t60 : TS), OK t60 → Fr [(68, 10), (68, 11), (68, 12), (68, 13), (68, 14)] t t60 → (tI t60 68 9 = tI t 68 9) → (tI t 68 10 ≤ tI t60 68 10) → (tI t60 68 10 ≤ tI t 68 9) → 96 - tI t60 68 10 < (n0 : Int) → 60 * n0 + (50000) ≤ M0 → Rn (bX9_go (EX FU (d + 1))) M0 0 [some (.ref 68), none] [] (mk t60) (PV (fun t' => OK t' ∧ Fr [(68, 10), (68, 11), (68, 12), (68, 13), (68, 14)] t t' ∧ (tI t 68 10 ≤ tI t' 68 11) ∧ (tI t' 68 11 ≤ tI t' 68 10) ∧ (tI t' 68 10 ≤ tI t 68 9) ∧ (tI t' 68 12 = 0 → tI t' 68 11 = tI t 68 9) ∧ (¬ tI t' 68 12 = 0 → tI t' 68 11 < tI t' 68 10))) := by
  have hr9t := ok.f fe_68_9
  intro n0
  induction n0 with
  | zero => intro M0 t60 ok60 fr60 i0_0 i0_1 i0_2 v0 f0; exfalso; omega
  | succ n0 ih0 =>
    intro M0 t60 ok60 fr60 i0_0 i0_1 i0_2 v0 f0
    obtain ⟨M0, rfl⟩ : ∃ m, M0 = m + 60 := ⟨M0 - 60, by omega⟩
    have hr0 := (ok60.f fe_68_10).1
    have hr9 := (ok60.f fe_68_9).2
    refine w_step rfl ?_
    refine w_aload rfl ?_
    refine w_getI (g_68_10 _) fe_68_10 ok60 (fun z61 hz61 hl61 hh61 => ?_)
    refine w_aload rfl ?_
    refine w_getI (g_68_9 _) fe_68_9 ok60 (fun z62 hz62 hl62 hh62 => ?_)
    refine w_cge (by omega) (fun h63 => ?_) (fun h63 => ?_)
    · skip
      refine w_step rfl ?_
      refine w_aload rfl ?_
      refine w_aload rfl ?_
      refine w_getI (g_68_10 _) fe_68_10 ok60 (fun z64 hz64 hl64 hh64 => ?_)
      refine w_putI (p_68_11 _) fe_68_11 ok60 (by omega) (fun t65 ht65 ok65 => ?_)
      have kf65_68_9 : tI t65 68 9 = tI t60 68 9 := by rw [ht65, tI_uI, if_neg (by decide)]
      have kf65_68_10 : tI t65 68 10 = tI t60 68 10 := by rw [ht65, tI_uI, if_neg (by decide)]
      have kf65_68_11 : tI t65 68 11 = z64 := by rw [ht65, tI_uI, if_pos ⟨rfl, rfl⟩]
      have kf65_68_12 : tI t65 68 12 = tI t60 68 12 := by rw [ht65, tI_uI, if_neg (by decide)]
      have kf65_68_13 : tI t65 68 13 = tI t60 68 13 := by rw [ht65, tI_uI, if_neg (by decide)]
      have kf65_68_14 : tI t65 68 14 = tI t60 68 14 := by rw [ht65, tI_uI, if_neg (by decide)]
      have fr65 := fr60.uI ht65 (by simp)
      refine w_aload rfl ?_
      refine w_getI (g_68_11 _) fe_68_11 ok65 (fun z66 hz66 hl66 hh66 => ?_)
      refine w_aload rfl ?_
      refine w_getI (g_68_14 _) fe_68_14 ok65 (fun z67 hz67 hl67 hh67 => ?_)
      refine w_cne (by omega) (fun h68 => ?_) (fun h68 => ?_)
      · skip
        refine w_step rfl ?_
        refine w_push kc_0 ?_
        refine w_goto ?_
        refine w_step rfl ?_
        refine w_istore (lv' := [some (.ref 68), some (.int (jI 0))]) rfl ?_
        refine w_aload rfl ?_
        refine w_getI (g_68_11 _) fe_68_11 ok65 (fun z69 hz69 hl69 hh69 => ?_)
        refine w_aload rfl ?_
        refine w_getI (g_68_9 _) fe_68_9 ok65 (fun z70 hz70 hl70 hh70 => ?_)
        refine w_cne (by omega) (fun h71 => ?_) (fun h71 => ?_)
        · skip
          exact c_X9_go_k4 (d := d) ok q0  _ 0 t65 ok65 fr65 (by omega) (by omega) (by omega) (by omega) (by omega) (by omega)  (by omega)
        refine w_aload rfl ?_
        refine w_push kc_0 ?_
        refine w_putI (p_68_12 _) fe_68_12 ok65 (by omega) (fun t72 ht72 ok72 => ?_)
        have kf72_68_9 : tI t72 68 9 = tI t65 68 9 := by rw [ht72, tI_uI, if_neg (by decide)]
        have kf72_68_10 : tI t72 68 10 = tI t65 68 10 := by rw [ht72, tI_uI, if_neg (by decide)]
        have kf72_68_11 : tI t72 68 11 = tI t65 68 11 := by rw [ht72, tI_uI, if_neg (by decide)]
        have kf72_68_12 : tI t72 68 12 = 0 := by rw [ht72, tI_uI, if_pos ⟨rfl, rfl⟩]
        have kf72_68_13 : tI t72 68 13 = tI t65 68 13 := by rw [ht72, tI_uI, if_neg (by decide)]
        have kf72_68_14 : tI t72 68 14 = tI t65 68 14 := by rw [ht72, tI_uI, if_neg (by decide)]
        have fr72 := fr65.uI ht72 (by simp)
        refine w_goto ?_
        refine w_step rfl ?_
        refine w_retV ?_
        exact ⟨ok72, fr72, (by omega), (by omega), (by omega), (by omega), (by omega)⟩
      refine w_push kc_1 ?_
      refine w_goto ?_
      refine w_step rfl ?_
      refine w_istore (lv' := [some (.ref 68), some (.int (jI 1))]) rfl ?_
      refine w_aload rfl ?_
      refine w_getI (g_68_11 _) fe_68_11 ok65 (fun z73 hz73 hl73 hh73 => ?_)
      refine w_aload rfl ?_
      refine w_getI (g_68_9 _) fe_68_9 ok65 (fun z74 hz74 hl74 hh74 => ?_)
      refine w_cne (by omega) (fun h75 => ?_) (fun h75 => ?_)
      · skip
        exact c_X9_go_k4 (d := d) ok q0  _ 1 t65 ok65 fr65 (by omega) (by omega) (by omega) (by omega) (by omega) (by omega)  (by omega)
      refine w_aload rfl ?_
      refine w_push kc_0 ?_
      refine w_putI (p_68_12 _) fe_68_12 ok65 (by omega) (fun t76 ht76 ok76 => ?_)
      have kf76_68_9 : tI t76 68 9 = tI t65 68 9 := by rw [ht76, tI_uI, if_neg (by decide)]
      have kf76_68_10 : tI t76 68 10 = tI t65 68 10 := by rw [ht76, tI_uI, if_neg (by decide)]
      have kf76_68_11 : tI t76 68 11 = tI t65 68 11 := by rw [ht76, tI_uI, if_neg (by decide)]
      have kf76_68_12 : tI t76 68 12 = 0 := by rw [ht76, tI_uI, if_pos ⟨rfl, rfl⟩]
      have kf76_68_13 : tI t76 68 13 = tI t65 68 13 := by rw [ht76, tI_uI, if_neg (by decide)]
      have kf76_68_14 : tI t76 68 14 = tI t65 68 14 := by rw [ht76, tI_uI, if_neg (by decide)]
      have fr76 := fr65.uI ht76 (by simp)
      refine w_goto ?_
      refine w_step rfl ?_
      refine w_retV ?_
      exact ⟨ok76, fr76, (by omega), (by omega), (by omega), (by omega), (by omega)⟩
    refine w_aload rfl ?_
    refine w_getR (g_68_8 _) ?_
    refine w_aload rfl ?_
    refine w_getI (g_68_10 _) fe_68_10 ok60 (fun z77 hz77 hl77 hh77 => ?_)
    refine w_iald (i := (z77).toNat) (ai_75 _) (by omega) (by omega) (ae_75 _) ok60 (fun z78 hz78 hl78 hh78 => ?_)
    refine w_push kc_32 ?_
    refine w_cne (by omega) (fun h79 => ?_) (fun h79 => ?_)
    · skip
      refine w_step rfl ?_
      refine w_aload rfl ?_
      refine w_aload rfl ?_
      refine w_getI (g_68_10 _) fe_68_10 ok60 (fun z80 hz80 hl80 hh80 => ?_)
      refine w_putI (p_68_11 _) fe_68_11 ok60 (by omega) (fun t81 ht81 ok81 => ?_)
      have kf81_68_9 : tI t81 68 9 = tI t60 68 9 := by rw [ht81, tI_uI, if_neg (by decide)]
      have kf81_68_10 : tI t81 68 10 = tI t60 68 10 := by rw [ht81, tI_uI, if_neg (by decide)]
      have kf81_68_11 : tI t81 68 11 = z80 := by rw [ht81, tI_uI, if_pos ⟨rfl, rfl⟩]
      have kf81_68_12 : tI t81 68 12 = tI t60 68 12 := by rw [ht81, tI_uI, if_neg (by decide)]
      have kf81_68_13 : tI t81 68 13 = tI t60 68 13 := by rw [ht81, tI_uI, if_neg (by decide)]
      have kf81_68_14 : tI t81 68 14 = tI t60 68 14 := by rw [ht81, tI_uI, if_neg (by decide)]
      have fr81 := fr60.uI ht81 (by simp)
      refine w_aload rfl ?_
      refine w_getI (g_68_11 _) fe_68_11 ok81 (fun z82 hz82 hl82 hh82 => ?_)
      refine w_aload rfl ?_
      refine w_getI (g_68_14 _) fe_68_14 ok81 (fun z83 hz83 hl83 hh83 => ?_)
      refine w_cne (by omega) (fun h84 => ?_) (fun h84 => ?_)
      · skip
        refine w_step rfl ?_
        refine w_push kc_0 ?_
        refine w_goto ?_
        refine w_step rfl ?_
        refine w_istore (lv' := [some (.ref 68), some (.int (jI 0))]) rfl ?_
        refine w_aload rfl ?_
        refine w_getI (g_68_11 _) fe_68_11 ok81 (fun z85 hz85 hl85 hh85 => ?_)
        refine w_aload rfl ?_
        refine w_getI (g_68_9 _) fe_68_9 ok81 (fun z86 hz86 hl86 hh86 => ?_)
        refine w_cne (by omega) (fun h87 => ?_) (fun h87 => ?_)
        · skip
          exact c_X9_go_k4 (d := d) ok q0  _ 0 t81 ok81 fr81 (by omega) (by omega) (by omega) (by omega) (by omega) (by omega)  (by omega)
        refine w_aload rfl ?_
        refine w_push kc_0 ?_
        refine w_putI (p_68_12 _) fe_68_12 ok81 (by omega) (fun t88 ht88 ok88 => ?_)
        have kf88_68_9 : tI t88 68 9 = tI t81 68 9 := by rw [ht88, tI_uI, if_neg (by decide)]
        have kf88_68_10 : tI t88 68 10 = tI t81 68 10 := by rw [ht88, tI_uI, if_neg (by decide)]
        have kf88_68_11 : tI t88 68 11 = tI t81 68 11 := by rw [ht88, tI_uI, if_neg (by decide)]
        have kf88_68_12 : tI t88 68 12 = 0 := by rw [ht88, tI_uI, if_pos ⟨rfl, rfl⟩]
        have kf88_68_13 : tI t88 68 13 = tI t81 68 13 := by rw [ht88, tI_uI, if_neg (by decide)]
        have kf88_68_14 : tI t88 68 14 = tI t81 68 14 := by rw [ht88, tI_uI, if_neg (by decide)]
        have fr88 := fr81.uI ht88 (by simp)
        refine w_goto ?_
        refine w_step rfl ?_
        refine w_retV ?_
        exact ⟨ok88, fr88, (by omega), (by omega), (by omega), (by omega), (by omega)⟩
      refine w_push kc_1 ?_
      refine w_goto ?_
      refine w_step rfl ?_
      refine w_istore (lv' := [some (.ref 68), some (.int (jI 1))]) rfl ?_
      refine w_aload rfl ?_
      refine w_getI (g_68_11 _) fe_68_11 ok81 (fun z89 hz89 hl89 hh89 => ?_)
      refine w_aload rfl ?_
      refine w_getI (g_68_9 _) fe_68_9 ok81 (fun z90 hz90 hl90 hh90 => ?_)
      refine w_cne (by omega) (fun h91 => ?_) (fun h91 => ?_)
      · skip
        exact c_X9_go_k4 (d := d) ok q0  _ 1 t81 ok81 fr81 (by omega) (by omega) (by omega) (by omega) (by omega) (by omega)  (by omega)
      refine w_aload rfl ?_
      refine w_push kc_0 ?_
      refine w_putI (p_68_12 _) fe_68_12 ok81 (by omega) (fun t92 ht92 ok92 => ?_)
      have kf92_68_9 : tI t92 68 9 = tI t81 68 9 := by rw [ht92, tI_uI, if_neg (by decide)]
      have kf92_68_10 : tI t92 68 10 = tI t81 68 10 := by rw [ht92, tI_uI, if_neg (by decide)]
      have kf92_68_11 : tI t92 68 11 = tI t81 68 11 := by rw [ht92, tI_uI, if_neg (by decide)]
      have kf92_68_12 : tI t92 68 12 = 0 := by rw [ht92, tI_uI, if_pos ⟨rfl, rfl⟩]
      have kf92_68_13 : tI t92 68 13 = tI t81 68 13 := by rw [ht92, tI_uI, if_neg (by decide)]
      have kf92_68_14 : tI t92 68 14 = tI t81 68 14 := by rw [ht92, tI_uI, if_neg (by decide)]
      have fr92 := fr81.uI ht92 (by simp)
      refine w_goto ?_
      refine w_step rfl ?_
      refine w_retV ?_
      exact ⟨ok92, fr92, (by omega), (by omega), (by omega), (by omega), (by omega)⟩
    refine w_aload rfl ?_
    refine w_dupR ?_
    refine w_getI (g_68_10 _) fe_68_10 ok60 (fun z93 hz93 hl93 hh93 => ?_)
    refine w_push kc_1 ?_
    refine w_add ?_
    refine w_putI (p_68_10 _) fe_68_10 ok60 (by omega) (fun t94 ht94 ok94 => ?_)
    have kf94_68_9 : tI t94 68 9 = tI t60 68 9 := by rw [ht94, tI_uI, if_neg (by decide)]
    have kf94_68_10 : tI t94 68 10 = (z93 + 1) := by rw [ht94, tI_uI, if_pos ⟨rfl, rfl⟩]
    have kf94_68_11 : tI t94 68 11 = tI t60 68 11 := by rw [ht94, tI_uI, if_neg (by decide)]
    have kf94_68_12 : tI t94 68 12 = tI t60 68 12 := by rw [ht94, tI_uI, if_neg (by decide)]
    have kf94_68_13 : tI t94 68 13 = tI t60 68 13 := by rw [ht94, tI_uI, if_neg (by decide)]
    have kf94_68_14 : tI t94 68 14 = tI t60 68 14 := by rw [ht94, tI_uI, if_neg (by decide)]
    have fr94 := fr60.uI ht94 (by simp)
    refine w_goto ?_
    exact ih0 _ t94 ok94 fr94 (by omega) (by omega) (by omega) (by omega) (by omega)
set_option maxRecDepth 100000 in
set_option maxHeartbeats 4000000 in
theorem c_X9_go {d : Nat} {t : TS}  (ok : OK t) (q0 : tI t 68 10 ≤ tI t 68 9) : CV (EX FU (d + 2)) 191 [.ref 68] (mk t) (fun t' => OK t' ∧ Fr [(68, 10), (68, 11), (68, 12), (68, 13), (68, 14)] t t' ∧ (tI t 68 10 ≤ tI t' 68 11) ∧ (tI t' 68 11 ≤ tI t' 68 10) ∧ (tI t' 68 10 ≤ tI t 68 9) ∧ (tI t' 68 12 = 0 → tI t' 68 11 = tI t 68 9) ∧ (¬ tI t' 68 12 = 0 → tI t' 68 11 < tI t' 68 10)) := by
  refine CV_ent (d := d + 1) (Bk := bX9_go) (nL := 2) rfl rfl rfl (Nat.le_of_ble_eq_true rfl) ?_
  show Rn _ 1000000 0 [some (.ref 68), none] [] _ _
  have fr : Fr [(68, 10), (68, 11), (68, 12), (68, 13), (68, 14)] t t := Fr.rf _ _
  have hr9t := ok.f fe_68_9
  have hr0 := (ok.f fe_68_10).1
  exact c_X9_go_k0 (d := d) ok q0 97 _ t ok fr (by omega) (by omega) (by omega) (by omega) (by omega)
