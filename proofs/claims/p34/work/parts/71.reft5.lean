set_option maxRecDepth 100000 in
set_option maxHeartbeats 4000000 in
theorem c_X9_takesE_k1 {d : Nat} {t : TS}  (ok : OK t) (q0 : 3 ≤ tI t 68 11) (q1 : tI t 68 11 ≤ tI t 68 10) (q2 : tI t 68 10 ≤ tI t 68 9) (q3 : tI t 68 12 = 0 → tI t 68 11 = tI t 68 9) (q4 : ¬ tI t 68 12 = 0 → tI t 68 11 < tI t 68 10) : ∀ (n1 M1 : Nat) (parens : Int) (nots : Int) (wants : Int) (o4 : Option Int) (t1 : TS), OK t1 → Fr [(68, 10), (68, 11), (68, 12), (68, 13), (68, 14), (68, 19), (68, 20), (68, 22), (78, 100), (79, 100), (80, 100)] t t1 → (EN t1 (1 - wants) parens) → (0 ≤ parens) → (parens ≤ 8) → (-2147483648 ≤ nots) → (nots ≤ 2147483647) → (0 ≤ wants) → (wants ≤ 1) → (tI t1 68 9 = tI t 68 9) → (tI t1 68 19 + tI t1 68 22 + 3 ≤ tI t1 68 11) → (tI t1 68 20 + 3 ≤ tI t1 68 11) → (tI t1 68 11 ≤ tI t1 68 10) → (tI t1 68 10 ≤ tI t 68 9) → (tI t1 68 12 = 0 → tI t1 68 11 = tI t 68 9) → (¬ tI t1 68 12 = 0 → tI t1 68 11 < tI t1 68 10) → 96 - tI t1 68 11 < (n1 : Int) → 100 * n1 + (1000) ≤ M1 → Rn (bX9_takesE (EX FU (d + 3))) M1 1 [some (.ref 68), some (.int (jI parens)), some (.int (jI nots)), some (.int (jI wants)), dv o4] [] (mk t1) (PI (fun z t' => OK t' ∧ Fr [(68, 10), (68, 11), (68, 12), (68, 13), (68, 14), (68, 19), (68, 20), (68, 22), (78, 100), (79, 100), (80, 100)] t t' ∧ (0 ≤ z) ∧ (z ≤ 1) ∧ (¬ z = 0 → wfC (tA t' 78) (tI t' 68 19).toNat) ∧ (tI t' 68 19 ≤ 95 ∨ z = 0))) := by
  have r9 := ok.f fe_68_9
  intro n1
  induction n1 with
  | zero => intro M1 parens nots wants o4 t1 ok1 fr1 i1_0 i1_1 i1_2 i1_3 i1_4 i1_5 i1_6 i1_7 i1_8 i1_9 i1_10 i1_11 i1_12 i1_13 v1 f1; exfalso; omega
  | succ n1 ih1 =>
    intro M1 parens nots wants o4 t1 ok1 fr1 i1_0 i1_1 i1_2 i1_3 i1_4 i1_5 i1_6 i1_7 i1_8 i1_9 i1_10 i1_11 i1_12 i1_13 v1 f1
    obtain ⟨M1, rfl⟩ : ∃ m, M1 = m + 100 := ⟨M1 - 100, by omega⟩
    have r19 := ok1.f fe_68_19
    have r22 := ok1.f fe_68_22
    have r20 := ok1.f fe_68_20
    refine w_step rfl ?_
    refine w_iload rfl ?_
    refine w_ine (by omega) (fun h2 => ?_) (fun h2 => ?_)
    · skip
      refine w_step rfl ?_
      refine w_iload rfl ?_
      refine w_ieq (by omega) (fun h => absurd h (by omega)) (fun _ => ?_)
      have e0 : EN t1 0 parens := by
        have h9 : 1 - wants = 0 := by omega
        rw [h9] at i1_0
        exact i1_0
      refine w_aload rfl ?_
      refine w_getI (g_68_12 _) fe_68_12 ok1 (fun z3 hz3 hl3 hh3 => ?_)
      refine w_push kc_3 ?_
      refine w_cne (by omega) (fun h4 => ?_) (fun h4 => ?_)
      · skip
        refine w_step rfl ?_
        refine w_aload rfl ?_
        refine w_getI (g_68_12 _) fe_68_12 ok1 (fun z5 hz5 hl5 hh5 => ?_)
        refine w_push kc_3 ?_
        refine w_cne (by omega) (fun h6 => ?_) (fun h6 => ?_)
        · skip
          refine w_step rfl ?_
          refine w_aload rfl ?_
          refine w_callV0I (oj_68 _).choose_spec rfl (c_X9_takesPart ok1 e0 (by omega) (by omega) (by omega)) ?_
          rintro z7 t7 ⟨ok7, fq7, hp7_0, hp7_1, hp7_2, hp7_3, hp7_4, hp7_5, hp7_6, hp7_7, hp7_8, hp7_9, hp7_10⟩
          have fr7 := fr1.then fq7 (by simp)
          have kf7_68_9 : tI t7 68 9 = tI t1 68 9 := fq7.1 68 9 (by simp)
          have eP := hp7_2
          refine w_ieq (by omega) (fun h8 => ?_) (fun h8 => ?_)
          · skip
            refine w_step rfl ?_
            refine w_push kc_0 ?_
            refine w_retI rfl ?_
            exact ⟨ok7, fr7, (by omega), (by omega), (by first | exact (fun _ => eE.1.1) | (intro h9; exact absurd rfl h9)), (by omega)⟩
          refine w_push kc_0 ?_
          refine w_istore (lv' := [some (.ref 68), some (.int (jI parens)), some (.int (jI nots)), some (.int (jI 0)), dv o4]) rfl ?_
          refine w_goto ?_
          refine w_step rfl ?_
          refine w_aload rfl ?_
          refine w_callV0I (oj_68 _).choose_spec rfl (c_X9_notsOpen ok7) ?_
          rintro z9 t9 ⟨rfl, hp9_0, hp9_1⟩
          refine w_istore (lv' := [some (.ref 68), some (.int (jI parens)), some (.int (jI z9)), some (.int (jI 0)), dv o4]) rfl ?_
          refine w_goto ?_
          have eB : EN t7 (1 - 0) (parens) := by
            first
              | (have h9 : (1 : Int) - 0 = 0 := by omega
                 rw [h9]; have h8 : parens = parens + (if (-10 : Int) = -11 then 1 else 0) := by simp
                 rw [h8]; exact eE)
              | (have h9 : (1 : Int) - 0 = 0 := by omega
                 rw [h9]; have h8 : parens = parens + (if (-11 : Int) = -11 then 1 else 0) := by simp
                 rw [h8]; exact eE)
              | (have h9 : (1 : Int) - 0 = 1 := by omega
                 rw [h9]; exact eP (by omega))
              | (have h9 : (1 : Int) - 0 = 1 := by omega
                 rw [h9]; have h8 : parens = parens - 1 := by omega
                 rw [h8]; exact eE)
              | (have h9 : (1 : Int) - 0 = 0 := by omega
                 rw [h9]; exact eE)
          exact ih1 _ parens z9 0 o4 t7 ok7 fr7 eB (by omega) (by omega) (by omega) (by omega) (by omega) (by omega) (by omega) (by omega) (by omega) (by omega) (by omega) (by omega) (by omega) (by omega) (by omega)
        refine w_aload rfl ?_
        refine w_getI (g_68_13 _) fe_68_13 ok1 (fun z10 hz10 hl10 hh10 => ?_)
        refine w_push kc_40 ?_
        refine w_cne (by omega) (fun h11 => ?_) (fun h11 => ?_)
        · skip
          refine w_step rfl ?_
          refine w_aload rfl ?_
          refine w_callV0I (oj_68 _).choose_spec rfl (c_X9_takesPart ok1 e0 (by omega) (by omega) (by omega)) ?_
          rintro z12 t12 ⟨ok12, fq12, hp12_0, hp12_1, hp12_2, hp12_3, hp12_4, hp12_5, hp12_6, hp12_7, hp12_8, hp12_9, hp12_10⟩
          have fr12 := fr1.then fq12 (by simp)
          have kf12_68_9 : tI t12 68 9 = tI t1 68 9 := fq12.1 68 9 (by simp)
          have eP := hp12_2
          refine w_ieq (by omega) (fun h13 => ?_) (fun h13 => ?_)
          · skip
            refine w_step rfl ?_
            refine w_push kc_0 ?_
            refine w_retI rfl ?_
            exact ⟨ok12, fr12, (by omega), (by omega), (by first | exact (fun _ => eE.1.1) | (intro h9; exact absurd rfl h9)), (by omega)⟩
          refine w_push kc_0 ?_
          refine w_istore (lv' := [some (.ref 68), some (.int (jI parens)), some (.int (jI nots)), some (.int (jI 0)), dv o4]) rfl ?_
          refine w_goto ?_
          refine w_step rfl ?_
          refine w_aload rfl ?_
          refine w_callV0I (oj_68 _).choose_spec rfl (c_X9_notsOpen ok12) ?_
          rintro z14 t14 ⟨rfl, hp14_0, hp14_1⟩
          refine w_istore (lv' := [some (.ref 68), some (.int (jI parens)), some (.int (jI z14)), some (.int (jI 0)), dv o4]) rfl ?_
          refine w_goto ?_
          have eB : EN t12 (1 - 0) (parens) := by
            first
              | (have h9 : (1 : Int) - 0 = 0 := by omega
                 rw [h9]; have h8 : parens = parens + (if (-10 : Int) = -11 then 1 else 0) := by simp
                 rw [h8]; exact eE)
              | (have h9 : (1 : Int) - 0 = 0 := by omega
                 rw [h9]; have h8 : parens = parens + (if (-11 : Int) = -11 then 1 else 0) := by simp
                 rw [h8]; exact eE)
              | (have h9 : (1 : Int) - 0 = 1 := by omega
                 rw [h9]; exact eP (by omega))
              | (have h9 : (1 : Int) - 0 = 1 := by omega
                 rw [h9]; have h8 : parens = parens - 1 := by omega
                 rw [h8]; exact eE)
              | (have h9 : (1 : Int) - 0 = 0 := by omega
                 rw [h9]; exact eE)
          exact ih1 _ parens z14 0 o4 t12 ok12 fr12 eB (by omega) (by omega) (by omega) (by omega) (by omega) (by omega) (by omega) (by omega) (by omega) (by omega) (by omega) (by omega) (by omega) (by omega) (by omega)
        refine w_iload rfl ?_
        refine w_push kc_8 ?_
        refine w_cge (by omega) (fun h15 => ?_) (fun h15 => ?_)
        · skip
          refine w_step rfl ?_
          refine w_aload rfl ?_
          refine w_callV0I (oj_68 _).choose_spec rfl (c_X9_takesPart ok1 e0 (by omega) (by omega) (by omega)) ?_
          rintro z16 t16 ⟨ok16, fq16, hp16_0, hp16_1, hp16_2, hp16_3, hp16_4, hp16_5, hp16_6, hp16_7, hp16_8, hp16_9, hp16_10⟩
          have fr16 := fr1.then fq16 (by simp)
          have kf16_68_9 : tI t16 68 9 = tI t1 68 9 := fq16.1 68 9 (by simp)
          have eP := hp16_2
          refine w_ieq (by omega) (fun h17 => ?_) (fun h17 => ?_)
          · skip
            refine w_step rfl ?_
            refine w_push kc_0 ?_
            refine w_retI rfl ?_
            exact ⟨ok16, fr16, (by omega), (by omega), (by first | exact (fun _ => eE.1.1) | (intro h9; exact absurd rfl h9)), (by omega)⟩
          refine w_push kc_0 ?_
          refine w_istore (lv' := [some (.ref 68), some (.int (jI parens)), some (.int (jI nots)), some (.int (jI 0)), dv o4]) rfl ?_
          refine w_goto ?_
          refine w_step rfl ?_
          refine w_aload rfl ?_
          refine w_callV0I (oj_68 _).choose_spec rfl (c_X9_notsOpen ok16) ?_
          rintro z18 t18 ⟨rfl, hp18_0, hp18_1⟩
          refine w_istore (lv' := [some (.ref 68), some (.int (jI parens)), some (.int (jI z18)), some (.int (jI 0)), dv o4]) rfl ?_
          refine w_goto ?_
          have eB : EN t16 (1 - 0) (parens) := by
            first
              | (have h9 : (1 : Int) - 0 = 0 := by omega
                 rw [h9]; have h8 : parens = parens + (if (-10 : Int) = -11 then 1 else 0) := by simp
                 rw [h8]; exact eE)
              | (have h9 : (1 : Int) - 0 = 0 := by omega
                 rw [h9]; have h8 : parens = parens + (if (-11 : Int) = -11 then 1 else 0) := by simp
                 rw [h8]; exact eE)
              | (have h9 : (1 : Int) - 0 = 1 := by omega
                 rw [h9]; exact eP (by omega))
              | (have h9 : (1 : Int) - 0 = 1 := by omega
                 rw [h9]; have h8 : parens = parens - 1 := by omega
                 rw [h8]; exact eE)
              | (have h9 : (1 : Int) - 0 = 0 := by omega
                 rw [h9]; exact eE)
          exact ih1 _ parens z18 0 o4 t16 ok16 fr16 eB (by omega) (by omega) (by omega) (by omega) (by omega) (by omega) (by omega) (by omega) (by omega) (by omega) (by omega) (by omega) (by omega) (by omega) (by omega)
        refine w_aload rfl ?_
        refine w_getR (g_68_21 _) ?_
        refine w_aload rfl ?_
        refine w_getI (g_68_22 _) fe_68_22 ok1 (fun z19 hz19 hl19 hh19 => ?_)
        refine w_push kc_m11 ?_
        refine w_iast (i := (z19).toNat) (ai_79 _) rfl (by omega) (by omega) (ae_79 _) ok1 (by omega) (fun t20 ht20 ok20 => ?_)
        have kf20_68_9 : tI t20 68 9 = tI t1 68 9 := by rw [ht20]; rfl
        have kf20_68_10 : tI t20 68 10 = tI t1 68 10 := by rw [ht20]; rfl
        have kf20_68_11 : tI t20 68 11 = tI t1 68 11 := by rw [ht20]; rfl
        have kf20_68_12 : tI t20 68 12 = tI t1 68 12 := by rw [ht20]; rfl
        have kf20_68_13 : tI t20 68 13 = tI t1 68 13 := by rw [ht20]; rfl
        have kf20_68_14 : tI t20 68 14 = tI t1 68 14 := by rw [ht20]; rfl
        have kf20_68_19 : tI t20 68 19 = tI t1 68 19 := by rw [ht20]; rfl
        have kf20_68_20 : tI t20 68 20 = tI t1 68 20 := by rw [ht20]; rfl
        have kf20_68_22 : tI t20 68 22 = tI t1 68 22 := by rw [ht20]; rfl
        have fr20 := fr1.uA ht20 (by simp)
        have p1 := ht20
        refine w_aload rfl ?_
        refine w_dupR ?_
        refine w_getI (g_68_22 _) fe_68_22 ok20 (fun z21 hz21 hl21 hh21 => ?_)
        refine w_push kc_1 ?_
        refine w_add ?_
        refine w_putI (p_68_22 _) fe_68_22 ok20 (by omega) (fun t22 ht22 ok22 => ?_)
        have kf22_68_9 : tI t22 68 9 = tI t20 68 9 := by rw [ht22, tI_uI, if_neg (by decide)]
        have kf22_68_10 : tI t22 68 10 = tI t20 68 10 := by rw [ht22, tI_uI, if_neg (by decide)]
        have kf22_68_11 : tI t22 68 11 = tI t20 68 11 := by rw [ht22, tI_uI, if_neg (by decide)]
        have kf22_68_12 : tI t22 68 12 = tI t20 68 12 := by rw [ht22, tI_uI, if_neg (by decide)]
        have kf22_68_13 : tI t22 68 13 = tI t20 68 13 := by rw [ht22, tI_uI, if_neg (by decide)]
        have kf22_68_14 : tI t22 68 14 = tI t20 68 14 := by rw [ht22, tI_uI, if_neg (by decide)]
        have kf22_68_19 : tI t22 68 19 = tI t20 68 19 := by rw [ht22, tI_uI, if_neg (by decide)]
        have kf22_68_20 : tI t22 68 20 = tI t20 68 20 := by rw [ht22, tI_uI, if_neg (by decide)]
        have kf22_68_22 : tI t22 68 22 = (z21 + 1) := by rw [ht22, tI_uI, if_pos ⟨rfl, rfl⟩]
        have fr22 := fr20.uI ht22 (by simp)
        have p2 := ht22
        have eE : EN t22 0 (parens + (if (-11 : Int) = -11 then 1 else 0)) := EN.psh (v := -11) e0 (by omega) (by omega) (by omega) (by omega) (fun i => by rw [p2, tA_uI, p1, tA_uA, if_neg (by omega)]) (fun i => by
          rw [p2, tA_uI, p1, tA_uA]
          by_cases h9 : i = (tI t1 68 22).toNat
          · rw [if_pos (by omega), if_pos h9]
          · rw [if_neg (by omega), if_neg h9])
        refine w_iinc (lv' := [some (.ref 68), some (.int (jI (parens + 1))), some (.int (jI nots)), some (.int (jI wants)), dv o4]) kc_1 rfl rfl ?_
        refine w_aload rfl ?_
        refine w_getR (g_68_23 _) ?_
        refine w_iload rfl ?_
        refine w_push kc_0 ?_
        refine w_iast (i := ((parens + 1)).toNat) (ai_80 _) (nar_bool (by omega)) (by omega) (by omega) (ae_80 _) ok22 (by omega) (fun t23 ht23 ok23 => ?_)
        have kf23_68_9 : tI t23 68 9 = tI t22 68 9 := by rw [ht23]; rfl
        have kf23_68_10 : tI t23 68 10 = tI t22 68 10 := by rw [ht23]; rfl
        have kf23_68_11 : tI t23 68 11 = tI t22 68 11 := by rw [ht23]; rfl
        have kf23_68_12 : tI t23 68 12 = tI t22 68 12 := by rw [ht23]; rfl
        have kf23_68_13 : tI t23 68 13 = tI t22 68 13 := by rw [ht23]; rfl
        have kf23_68_14 : tI t23 68 14 = tI t22 68 14 := by rw [ht23]; rfl
        have kf23_68_19 : tI t23 68 19 = tI t22 68 19 := by rw [ht23]; rfl
        have kf23_68_20 : tI t23 68 20 = tI t22 68 20 := by rw [ht23]; rfl
        have kf23_68_22 : tI t23 68 22 = tI t22 68 22 := by rw [ht23]; rfl
        have fr23 := fr22.uA ht23 (by simp)
        have eE := eE.uAo ht23 (by decide) (by decide)
        refine w_aload rfl ?_
        refine w_callV0V (oj_68 _).choose_spec rfl (c_X9_go ok23 (by omega)) ?_
        rintro t24 ⟨ok24, fq24, hp24_0, hp24_1, hp24_2, hp24_3, hp24_4⟩
        have fr24 := fr23.then fq24 (by simp)
        have kf24_68_9 : tI t24 68 9 = tI t23 68 9 := fq24.1 68 9 (by simp)
        have kf24_68_19 : tI t24 68 19 = tI t23 68 19 := fq24.1 68 19 (by simp)
        have kf24_68_20 : tI t24 68 20 = tI t23 68 20 := fq24.1 68 20 (by simp)
        have kf24_68_22 : tI t24 68 22 = tI t23 68 22 := fq24.1 68 22 (by simp)
        have eE := eE.fr fq24 (by simp) (by simp) (by simp) (by simp)
        refine w_goto ?_
        refine w_step rfl ?_
        refine w_aload rfl ?_
        refine w_callV0I (oj_68 _).choose_spec rfl (c_X9_notsOpen ok24) ?_
        rintro z25 t25 ⟨rfl, hp25_0, hp25_1⟩
        refine w_istore (lv' := [some (.ref 68), some (.int (jI (parens + 1))), some (.int (jI z25)), some (.int (jI wants)), dv o4]) rfl ?_
        refine w_goto ?_
        have eB : EN t24 (1 - wants) ((parens + 1)) := by
          first
            | (have h9 : (1 : Int) - wants = 0 := by omega
               rw [h9]; have h8 : (parens + 1) = parens + (if (-10 : Int) = -11 then 1 else 0) := by simp
               rw [h8]; exact eE)
            | (have h9 : (1 : Int) - wants = 0 := by omega
               rw [h9]; have h8 : (parens + 1) = parens + (if (-11 : Int) = -11 then 1 else 0) := by simp
               rw [h8]; exact eE)
            | (have h9 : (1 : Int) - wants = 1 := by omega
               rw [h9]; exact eP (by omega))
            | (have h9 : (1 : Int) - wants = 1 := by omega
               rw [h9]; have h8 : (parens + 1) = parens - 1 := by omega
               rw [h8]; exact eE)
            | (have h9 : (1 : Int) - wants = 0 := by omega
               rw [h9]; exact eE)
        exact ih1 _ (parens + 1) z25 wants o4 t24 ok24 fr24 eB (by omega) (by omega) (by omega) (by omega) (by omega) (by omega) (by omega) (by omega) (by omega) (by omega) (by omega) (by omega) (by omega) (by omega) (by omega)
      refine w_aload rfl ?_
      refine w_getI (g_68_13 _) fe_68_13 ok1 (fun z26 hz26 hl26 hh26 => ?_)
      refine w_push kc_33 ?_
      refine w_cne (by omega) (fun h27 => ?_) (fun h27 => ?_)
      · skip
        refine w_step rfl ?_
        refine w_aload rfl ?_
        refine w_getI (g_68_12 _) fe_68_12 ok1 (fun z28 hz28 hl28 hh28 => ?_)
        refine w_push kc_3 ?_
        refine w_cne (by omega) (fun h29 => ?_) (fun h29 => ?_)
        · skip
          refine w_step rfl ?_
          refine w_aload rfl ?_
          refine w_callV0I (oj_68 _).choose_spec rfl (c_X9_takesPart ok1 e0 (by omega) (by omega) (by omega)) ?_
          rintro z30 t30 ⟨ok30, fq30, hp30_0, hp30_1, hp30_2, hp30_3, hp30_4, hp30_5, hp30_6, hp30_7, hp30_8, hp30_9, hp30_10⟩
          have fr30 := fr1.then fq30 (by simp)
          have kf30_68_9 : tI t30 68 9 = tI t1 68 9 := fq30.1 68 9 (by simp)
          have eP := hp30_2
          refine w_ieq (by omega) (fun h31 => ?_) (fun h31 => ?_)
          · skip
            refine w_step rfl ?_
            refine w_push kc_0 ?_
            refine w_retI rfl ?_
            exact ⟨ok30, fr30, (by omega), (by omega), (by first | exact (fun _ => eE.1.1) | (intro h9; exact absurd rfl h9)), (by omega)⟩
          refine w_push kc_0 ?_
          refine w_istore (lv' := [some (.ref 68), some (.int (jI parens)), some (.int (jI nots)), some (.int (jI 0)), dv o4]) rfl ?_
          refine w_goto ?_
          refine w_step rfl ?_
          refine w_aload rfl ?_
          refine w_callV0I (oj_68 _).choose_spec rfl (c_X9_notsOpen ok30) ?_
          rintro z32 t32 ⟨rfl, hp32_0, hp32_1⟩
          refine w_istore (lv' := [some (.ref 68), some (.int (jI parens)), some (.int (jI z32)), some (.int (jI 0)), dv o4]) rfl ?_
          refine w_goto ?_
          have eB : EN t30 (1 - 0) (parens) := by
            first
              | (have h9 : (1 : Int) - 0 = 0 := by omega
                 rw [h9]; have h8 : parens = parens + (if (-10 : Int) = -11 then 1 else 0) := by simp
                 rw [h8]; exact eE)
              | (have h9 : (1 : Int) - 0 = 0 := by omega
                 rw [h9]; have h8 : parens = parens + (if (-11 : Int) = -11 then 1 else 0) := by simp
                 rw [h8]; exact eE)
              | (have h9 : (1 : Int) - 0 = 1 := by omega
                 rw [h9]; exact eP (by omega))
              | (have h9 : (1 : Int) - 0 = 1 := by omega
                 rw [h9]; have h8 : parens = parens - 1 := by omega
                 rw [h8]; exact eE)
              | (have h9 : (1 : Int) - 0 = 0 := by omega
                 rw [h9]; exact eE)
          exact ih1 _ parens z32 0 o4 t30 ok30 fr30 eB (by omega) (by omega) (by omega) (by omega) (by omega) (by omega) (by omega) (by omega) (by omega) (by omega) (by omega) (by omega) (by omega) (by omega) (by omega)
        refine w_aload rfl ?_
        refine w_getI (g_68_13 _) fe_68_13 ok1 (fun z33 hz33 hl33 hh33 => ?_)
        refine w_push kc_40 ?_
        refine w_cne (by omega) (fun h34 => ?_) (fun h34 => ?_)
        · skip
          refine w_step rfl ?_
          refine w_aload rfl ?_
          refine w_callV0I (oj_68 _).choose_spec rfl (c_X9_takesPart ok1 e0 (by omega) (by omega) (by omega)) ?_
          rintro z35 t35 ⟨ok35, fq35, hp35_0, hp35_1, hp35_2, hp35_3, hp35_4, hp35_5, hp35_6, hp35_7, hp35_8, hp35_9, hp35_10⟩
          have fr35 := fr1.then fq35 (by simp)
          have kf35_68_9 : tI t35 68 9 = tI t1 68 9 := fq35.1 68 9 (by simp)
          have eP := hp35_2
          refine w_ieq (by omega) (fun h36 => ?_) (fun h36 => ?_)
          · skip
            refine w_step rfl ?_
            refine w_push kc_0 ?_
            refine w_retI rfl ?_
            exact ⟨ok35, fr35, (by omega), (by omega), (by first | exact (fun _ => eE.1.1) | (intro h9; exact absurd rfl h9)), (by omega)⟩
          refine w_push kc_0 ?_
          refine w_istore (lv' := [some (.ref 68), some (.int (jI parens)), some (.int (jI nots)), some (.int (jI 0)), dv o4]) rfl ?_
          refine w_goto ?_
          refine w_step rfl ?_
          refine w_aload rfl ?_
          refine w_callV0I (oj_68 _).choose_spec rfl (c_X9_notsOpen ok35) ?_
          rintro z37 t37 ⟨rfl, hp37_0, hp37_1⟩
          refine w_istore (lv' := [some (.ref 68), some (.int (jI parens)), some (.int (jI z37)), some (.int (jI 0)), dv o4]) rfl ?_
          refine w_goto ?_
          have eB : EN t35 (1 - 0) (parens) := by
            first
              | (have h9 : (1 : Int) - 0 = 0 := by omega
                 rw [h9]; have h8 : parens = parens + (if (-10 : Int) = -11 then 1 else 0) := by simp
                 rw [h8]; exact eE)
              | (have h9 : (1 : Int) - 0 = 0 := by omega
                 rw [h9]; have h8 : parens = parens + (if (-11 : Int) = -11 then 1 else 0) := by simp
                 rw [h8]; exact eE)
              | (have h9 : (1 : Int) - 0 = 1 := by omega
                 rw [h9]; exact eP (by omega))
              | (have h9 : (1 : Int) - 0 = 1 := by omega
                 rw [h9]; have h8 : parens = parens - 1 := by omega
                 rw [h8]; exact eE)
              | (have h9 : (1 : Int) - 0 = 0 := by omega
                 rw [h9]; exact eE)
          exact ih1 _ parens z37 0 o4 t35 ok35 fr35 eB (by omega) (by omega) (by omega) (by omega) (by omega) (by omega) (by omega) (by omega) (by omega) (by omega) (by omega) (by omega) (by omega) (by omega) (by omega)
        refine w_iload rfl ?_
        refine w_push kc_8 ?_
        refine w_cge (by omega) (fun h38 => ?_) (fun h38 => ?_)
        · skip
          refine w_step rfl ?_
          refine w_aload rfl ?_
          refine w_callV0I (oj_68 _).choose_spec rfl (c_X9_takesPart ok1 e0 (by omega) (by omega) (by omega)) ?_
          rintro z39 t39 ⟨ok39, fq39, hp39_0, hp39_1, hp39_2, hp39_3, hp39_4, hp39_5, hp39_6, hp39_7, hp39_8, hp39_9, hp39_10⟩
          have fr39 := fr1.then fq39 (by simp)
          have kf39_68_9 : tI t39 68 9 = tI t1 68 9 := fq39.1 68 9 (by simp)
          have eP := hp39_2
          refine w_ieq (by omega) (fun h40 => ?_) (fun h40 => ?_)
          · skip
            refine w_step rfl ?_
            refine w_push kc_0 ?_
            refine w_retI rfl ?_
            exact ⟨ok39, fr39, (by omega), (by omega), (by first | exact (fun _ => eE.1.1) | (intro h9; exact absurd rfl h9)), (by omega)⟩
          refine w_push kc_0 ?_
          refine w_istore (lv' := [some (.ref 68), some (.int (jI parens)), some (.int (jI nots)), some (.int (jI 0)), dv o4]) rfl ?_
          refine w_goto ?_
          refine w_step rfl ?_
          refine w_aload rfl ?_
          refine w_callV0I (oj_68 _).choose_spec rfl (c_X9_notsOpen ok39) ?_
          rintro z41 t41 ⟨rfl, hp41_0, hp41_1⟩
          refine w_istore (lv' := [some (.ref 68), some (.int (jI parens)), some (.int (jI z41)), some (.int (jI 0)), dv o4]) rfl ?_
          refine w_goto ?_
          have eB : EN t39 (1 - 0) (parens) := by
            first
              | (have h9 : (1 : Int) - 0 = 0 := by omega
                 rw [h9]; have h8 : parens = parens + (if (-10 : Int) = -11 then 1 else 0) := by simp
                 rw [h8]; exact eE)
              | (have h9 : (1 : Int) - 0 = 0 := by omega
                 rw [h9]; have h8 : parens = parens + (if (-11 : Int) = -11 then 1 else 0) := by simp
                 rw [h8]; exact eE)
              | (have h9 : (1 : Int) - 0 = 1 := by omega
                 rw [h9]; exact eP (by omega))
              | (have h9 : (1 : Int) - 0 = 1 := by omega
                 rw [h9]; have h8 : parens = parens - 1 := by omega
                 rw [h8]; exact eE)
              | (have h9 : (1 : Int) - 0 = 0 := by omega
                 rw [h9]; exact eE)
          exact ih1 _ parens z41 0 o4 t39 ok39 fr39 eB (by omega) (by omega) (by omega) (by omega) (by omega) (by omega) (by omega) (by omega) (by omega) (by omega) (by omega) (by omega) (by omega) (by omega) (by omega)
        refine w_aload rfl ?_
        refine w_getR (g_68_21 _) ?_
        refine w_aload rfl ?_
        refine w_getI (g_68_22 _) fe_68_22 ok1 (fun z42 hz42 hl42 hh42 => ?_)
        refine w_push kc_m11 ?_
        refine w_iast (i := (z42).toNat) (ai_79 _) rfl (by omega) (by omega) (ae_79 _) ok1 (by omega) (fun t43 ht43 ok43 => ?_)
        have kf43_68_9 : tI t43 68 9 = tI t1 68 9 := by rw [ht43]; rfl
        have kf43_68_10 : tI t43 68 10 = tI t1 68 10 := by rw [ht43]; rfl
        have kf43_68_11 : tI t43 68 11 = tI t1 68 11 := by rw [ht43]; rfl
        have kf43_68_12 : tI t43 68 12 = tI t1 68 12 := by rw [ht43]; rfl
        have kf43_68_13 : tI t43 68 13 = tI t1 68 13 := by rw [ht43]; rfl
        have kf43_68_14 : tI t43 68 14 = tI t1 68 14 := by rw [ht43]; rfl
        have kf43_68_19 : tI t43 68 19 = tI t1 68 19 := by rw [ht43]; rfl
        have kf43_68_20 : tI t43 68 20 = tI t1 68 20 := by rw [ht43]; rfl
        have kf43_68_22 : tI t43 68 22 = tI t1 68 22 := by rw [ht43]; rfl
        have fr43 := fr1.uA ht43 (by simp)
        have p1 := ht43
        refine w_aload rfl ?_
        refine w_dupR ?_
        refine w_getI (g_68_22 _) fe_68_22 ok43 (fun z44 hz44 hl44 hh44 => ?_)
        refine w_push kc_1 ?_
        refine w_add ?_
        refine w_putI (p_68_22 _) fe_68_22 ok43 (by omega) (fun t45 ht45 ok45 => ?_)
        have kf45_68_9 : tI t45 68 9 = tI t43 68 9 := by rw [ht45, tI_uI, if_neg (by decide)]
        have kf45_68_10 : tI t45 68 10 = tI t43 68 10 := by rw [ht45, tI_uI, if_neg (by decide)]
        have kf45_68_11 : tI t45 68 11 = tI t43 68 11 := by rw [ht45, tI_uI, if_neg (by decide)]
        have kf45_68_12 : tI t45 68 12 = tI t43 68 12 := by rw [ht45, tI_uI, if_neg (by decide)]
        have kf45_68_13 : tI t45 68 13 = tI t43 68 13 := by rw [ht45, tI_uI, if_neg (by decide)]
        have kf45_68_14 : tI t45 68 14 = tI t43 68 14 := by rw [ht45, tI_uI, if_neg (by decide)]
        have kf45_68_19 : tI t45 68 19 = tI t43 68 19 := by rw [ht45, tI_uI, if_neg (by decide)]
        have kf45_68_20 : tI t45 68 20 = tI t43 68 20 := by rw [ht45, tI_uI, if_neg (by decide)]
        have kf45_68_22 : tI t45 68 22 = (z44 + 1) := by rw [ht45, tI_uI, if_pos ⟨rfl, rfl⟩]
        have fr45 := fr43.uI ht45 (by simp)
        have p2 := ht45
        have eE : EN t45 0 (parens + (if (-11 : Int) = -11 then 1 else 0)) := EN.psh (v := -11) e0 (by omega) (by omega) (by omega) (by omega) (fun i => by rw [p2, tA_uI, p1, tA_uA, if_neg (by omega)]) (fun i => by
          rw [p2, tA_uI, p1, tA_uA]
          by_cases h9 : i = (tI t1 68 22).toNat
          · rw [if_pos (by omega), if_pos h9]
          · rw [if_neg (by omega), if_neg h9])
        refine w_iinc (lv' := [some (.ref 68), some (.int (jI (parens + 1))), some (.int (jI nots)), some (.int (jI wants)), dv o4]) kc_1 rfl rfl ?_
        refine w_aload rfl ?_
        refine w_getR (g_68_23 _) ?_
        refine w_iload rfl ?_
        refine w_push kc_0 ?_
        refine w_iast (i := ((parens + 1)).toNat) (ai_80 _) (nar_bool (by omega)) (by omega) (by omega) (ae_80 _) ok45 (by omega) (fun t46 ht46 ok46 => ?_)
        have kf46_68_9 : tI t46 68 9 = tI t45 68 9 := by rw [ht46]; rfl
        have kf46_68_10 : tI t46 68 10 = tI t45 68 10 := by rw [ht46]; rfl
        have kf46_68_11 : tI t46 68 11 = tI t45 68 11 := by rw [ht46]; rfl
        have kf46_68_12 : tI t46 68 12 = tI t45 68 12 := by rw [ht46]; rfl
        have kf46_68_13 : tI t46 68 13 = tI t45 68 13 := by rw [ht46]; rfl
        have kf46_68_14 : tI t46 68 14 = tI t45 68 14 := by rw [ht46]; rfl
        have kf46_68_19 : tI t46 68 19 = tI t45 68 19 := by rw [ht46]; rfl
        have kf46_68_20 : tI t46 68 20 = tI t45 68 20 := by rw [ht46]; rfl
        have kf46_68_22 : tI t46 68 22 = tI t45 68 22 := by rw [ht46]; rfl
        have fr46 := fr45.uA ht46 (by simp)
        have eE := eE.uAo ht46 (by decide) (by decide)
        refine w_aload rfl ?_
        refine w_callV0V (oj_68 _).choose_spec rfl (c_X9_go ok46 (by omega)) ?_
        rintro t47 ⟨ok47, fq47, hp47_0, hp47_1, hp47_2, hp47_3, hp47_4⟩
        have fr47 := fr46.then fq47 (by simp)
        have kf47_68_9 : tI t47 68 9 = tI t46 68 9 := fq47.1 68 9 (by simp)
        have kf47_68_19 : tI t47 68 19 = tI t46 68 19 := fq47.1 68 19 (by simp)
        have kf47_68_20 : tI t47 68 20 = tI t46 68 20 := fq47.1 68 20 (by simp)
        have kf47_68_22 : tI t47 68 22 = tI t46 68 22 := fq47.1 68 22 (by simp)
        have eE := eE.fr fq47 (by simp) (by simp) (by simp) (by simp)
        refine w_goto ?_
        refine w_step rfl ?_
        refine w_aload rfl ?_
        refine w_callV0I (oj_68 _).choose_spec rfl (c_X9_notsOpen ok47) ?_
        rintro z48 t48 ⟨rfl, hp48_0, hp48_1⟩
        refine w_istore (lv' := [some (.ref 68), some (.int (jI (parens + 1))), some (.int (jI z48)), some (.int (jI wants)), dv o4]) rfl ?_
        refine w_goto ?_
        have eB : EN t47 (1 - wants) ((parens + 1)) := by
          first
            | (have h9 : (1 : Int) - wants = 0 := by omega
               rw [h9]; have h8 : (parens + 1) = parens + (if (-10 : Int) = -11 then 1 else 0) := by simp
               rw [h8]; exact eE)
            | (have h9 : (1 : Int) - wants = 0 := by omega
               rw [h9]; have h8 : (parens + 1) = parens + (if (-11 : Int) = -11 then 1 else 0) := by simp
               rw [h8]; exact eE)
            | (have h9 : (1 : Int) - wants = 1 := by omega
               rw [h9]; exact eP (by omega))
            | (have h9 : (1 : Int) - wants = 1 := by omega
               rw [h9]; have h8 : (parens + 1) = parens - 1 := by omega
               rw [h8]; exact eE)
            | (have h9 : (1 : Int) - wants = 0 := by omega
               rw [h9]; exact eE)
        exact ih1 _ (parens + 1) z48 wants o4 t47 ok47 fr47 eB (by omega) (by omega) (by omega) (by omega) (by omega) (by omega) (by omega) (by omega) (by omega) (by omega) (by omega) (by omega) (by omega) (by omega) (by omega)
      refine w_iload rfl ?_
      refine w_push kc_8 ?_
      refine w_cge (by omega) (fun h49 => ?_) (fun h49 => ?_)
      · skip
        refine w_step rfl ?_
        refine w_aload rfl ?_
        refine w_getI (g_68_12 _) fe_68_12 ok1 (fun z50 hz50 hl50 hh50 => ?_)
        refine w_push kc_3 ?_
        refine w_cne (by omega) (fun h51 => ?_) (fun h51 => ?_)
        · skip
          refine w_step rfl ?_
          refine w_aload rfl ?_
          refine w_callV0I (oj_68 _).choose_spec rfl (c_X9_takesPart ok1 e0 (by omega) (by omega) (by omega)) ?_
          rintro z52 t52 ⟨ok52, fq52, hp52_0, hp52_1, hp52_2, hp52_3, hp52_4, hp52_5, hp52_6, hp52_7, hp52_8, hp52_9, hp52_10⟩
          have fr52 := fr1.then fq52 (by simp)
          have kf52_68_9 : tI t52 68 9 = tI t1 68 9 := fq52.1 68 9 (by simp)
          have eP := hp52_2
          refine w_ieq (by omega) (fun h53 => ?_) (fun h53 => ?_)
          · skip
            refine w_step rfl ?_
            refine w_push kc_0 ?_
            refine w_retI rfl ?_
            exact ⟨ok52, fr52, (by omega), (by omega), (by first | exact (fun _ => eE.1.1) | (intro h9; exact absurd rfl h9)), (by omega)⟩
          refine w_push kc_0 ?_
          refine w_istore (lv' := [some (.ref 68), some (.int (jI parens)), some (.int (jI nots)), some (.int (jI 0)), dv o4]) rfl ?_
          refine w_goto ?_
          refine w_step rfl ?_
          refine w_aload rfl ?_
          refine w_callV0I (oj_68 _).choose_spec rfl (c_X9_notsOpen ok52) ?_
          rintro z54 t54 ⟨rfl, hp54_0, hp54_1⟩
          refine w_istore (lv' := [some (.ref 68), some (.int (jI parens)), some (.int (jI z54)), some (.int (jI 0)), dv o4]) rfl ?_
          refine w_goto ?_
          have eB : EN t52 (1 - 0) (parens) := by
            first
              | (have h9 : (1 : Int) - 0 = 0 := by omega
                 rw [h9]; have h8 : parens = parens + (if (-10 : Int) = -11 then 1 else 0) := by simp
                 rw [h8]; exact eE)
              | (have h9 : (1 : Int) - 0 = 0 := by omega
                 rw [h9]; have h8 : parens = parens + (if (-11 : Int) = -11 then 1 else 0) := by simp
                 rw [h8]; exact eE)
              | (have h9 : (1 : Int) - 0 = 1 := by omega
                 rw [h9]; exact eP (by omega))
              | (have h9 : (1 : Int) - 0 = 1 := by omega
                 rw [h9]; have h8 : parens = parens - 1 := by omega
                 rw [h8]; exact eE)
              | (have h9 : (1 : Int) - 0 = 0 := by omega
                 rw [h9]; exact eE)
          exact ih1 _ parens z54 0 o4 t52 ok52 fr52 eB (by omega) (by omega) (by omega) (by omega) (by omega) (by omega) (by omega) (by omega) (by omega) (by omega) (by omega) (by omega) (by omega) (by omega) (by omega)
        refine w_aload rfl ?_
        refine w_getI (g_68_13 _) fe_68_13 ok1 (fun z55 hz55 hl55 hh55 => ?_)
        refine w_push kc_40 ?_
        refine w_cne (by omega) (fun h56 => ?_) (fun h56 => ?_)
        · skip
          refine w_step rfl ?_
          refine w_aload rfl ?_
          refine w_callV0I (oj_68 _).choose_spec rfl (c_X9_takesPart ok1 e0 (by omega) (by omega) (by omega)) ?_
          rintro z57 t57 ⟨ok57, fq57, hp57_0, hp57_1, hp57_2, hp57_3, hp57_4, hp57_5, hp57_6, hp57_7, hp57_8, hp57_9, hp57_10⟩
          have fr57 := fr1.then fq57 (by simp)
          have kf57_68_9 : tI t57 68 9 = tI t1 68 9 := fq57.1 68 9 (by simp)
          have eP := hp57_2
          refine w_ieq (by omega) (fun h58 => ?_) (fun h58 => ?_)
          · skip
            refine w_step rfl ?_
            refine w_push kc_0 ?_
            refine w_retI rfl ?_
            exact ⟨ok57, fr57, (by omega), (by omega), (by first | exact (fun _ => eE.1.1) | (intro h9; exact absurd rfl h9)), (by omega)⟩
          refine w_push kc_0 ?_
          refine w_istore (lv' := [some (.ref 68), some (.int (jI parens)), some (.int (jI nots)), some (.int (jI 0)), dv o4]) rfl ?_
          refine w_goto ?_
          refine w_step rfl ?_
          refine w_aload rfl ?_
          refine w_callV0I (oj_68 _).choose_spec rfl (c_X9_notsOpen ok57) ?_
          rintro z59 t59 ⟨rfl, hp59_0, hp59_1⟩
          refine w_istore (lv' := [some (.ref 68), some (.int (jI parens)), some (.int (jI z59)), some (.int (jI 0)), dv o4]) rfl ?_
          refine w_goto ?_
          have eB : EN t57 (1 - 0) (parens) := by
            first
              | (have h9 : (1 : Int) - 0 = 0 := by omega
                 rw [h9]; have h8 : parens = parens + (if (-10 : Int) = -11 then 1 else 0) := by simp
                 rw [h8]; exact eE)
              | (have h9 : (1 : Int) - 0 = 0 := by omega
                 rw [h9]; have h8 : parens = parens + (if (-11 : Int) = -11 then 1 else 0) := by simp
                 rw [h8]; exact eE)
              | (have h9 : (1 : Int) - 0 = 1 := by omega
                 rw [h9]; exact eP (by omega))
              | (have h9 : (1 : Int) - 0 = 1 := by omega
                 rw [h9]; have h8 : parens = parens - 1 := by omega
                 rw [h8]; exact eE)
              | (have h9 : (1 : Int) - 0 = 0 := by omega
                 rw [h9]; exact eE)
          exact ih1 _ parens z59 0 o4 t57 ok57 fr57 eB (by omega) (by omega) (by omega) (by omega) (by omega) (by omega) (by omega) (by omega) (by omega) (by omega) (by omega) (by omega) (by omega) (by omega) (by omega)
        refine w_iload rfl ?_
        refine w_push kc_8 ?_
        refine w_cge (by omega) (fun h60 => ?_) (fun h60 => ?_)
        · skip
          refine w_step rfl ?_
          refine w_aload rfl ?_
          refine w_callV0I (oj_68 _).choose_spec rfl (c_X9_takesPart ok1 e0 (by omega) (by omega) (by omega)) ?_
          rintro z61 t61 ⟨ok61, fq61, hp61_0, hp61_1, hp61_2, hp61_3, hp61_4, hp61_5, hp61_6, hp61_7, hp61_8, hp61_9, hp61_10⟩
          have fr61 := fr1.then fq61 (by simp)
          have kf61_68_9 : tI t61 68 9 = tI t1 68 9 := fq61.1 68 9 (by simp)
          have eP := hp61_2
          refine w_ieq (by omega) (fun h62 => ?_) (fun h62 => ?_)
          · skip
            refine w_step rfl ?_
            refine w_push kc_0 ?_
            refine w_retI rfl ?_
            exact ⟨ok61, fr61, (by omega), (by omega), (by first | exact (fun _ => eE.1.1) | (intro h9; exact absurd rfl h9)), (by omega)⟩
          refine w_push kc_0 ?_
          refine w_istore (lv' := [some (.ref 68), some (.int (jI parens)), some (.int (jI nots)), some (.int (jI 0)), dv o4]) rfl ?_
          refine w_goto ?_
          refine w_step rfl ?_
          refine w_aload rfl ?_
          refine w_callV0I (oj_68 _).choose_spec rfl (c_X9_notsOpen ok61) ?_
          rintro z63 t63 ⟨rfl, hp63_0, hp63_1⟩
          refine w_istore (lv' := [some (.ref 68), some (.int (jI parens)), some (.int (jI z63)), some (.int (jI 0)), dv o4]) rfl ?_
          refine w_goto ?_
          have eB : EN t61 (1 - 0) (parens) := by
            first
              | (have h9 : (1 : Int) - 0 = 0 := by omega
                 rw [h9]; have h8 : parens = parens + (if (-10 : Int) = -11 then 1 else 0) := by simp
                 rw [h8]; exact eE)
              | (have h9 : (1 : Int) - 0 = 0 := by omega
                 rw [h9]; have h8 : parens = parens + (if (-11 : Int) = -11 then 1 else 0) := by simp
                 rw [h8]; exact eE)
              | (have h9 : (1 : Int) - 0 = 1 := by omega
                 rw [h9]; exact eP (by omega))
              | (have h9 : (1 : Int) - 0 = 1 := by omega
                 rw [h9]; have h8 : parens = parens - 1 := by omega
                 rw [h8]; exact eE)
              | (have h9 : (1 : Int) - 0 = 0 := by omega
                 rw [h9]; exact eE)
          exact ih1 _ parens z63 0 o4 t61 ok61 fr61 eB (by omega) (by omega) (by omega) (by omega) (by omega) (by omega) (by omega) (by omega) (by omega) (by omega) (by omega) (by omega) (by omega) (by omega) (by omega)
        refine w_aload rfl ?_
        refine w_getR (g_68_21 _) ?_
        refine w_aload rfl ?_
        refine w_getI (g_68_22 _) fe_68_22 ok1 (fun z64 hz64 hl64 hh64 => ?_)
        refine w_push kc_m11 ?_
        refine w_iast (i := (z64).toNat) (ai_79 _) rfl (by omega) (by omega) (ae_79 _) ok1 (by omega) (fun t65 ht65 ok65 => ?_)
        have kf65_68_9 : tI t65 68 9 = tI t1 68 9 := by rw [ht65]; rfl
        have kf65_68_10 : tI t65 68 10 = tI t1 68 10 := by rw [ht65]; rfl
        have kf65_68_11 : tI t65 68 11 = tI t1 68 11 := by rw [ht65]; rfl
        have kf65_68_12 : tI t65 68 12 = tI t1 68 12 := by rw [ht65]; rfl
        have kf65_68_13 : tI t65 68 13 = tI t1 68 13 := by rw [ht65]; rfl
        have kf65_68_14 : tI t65 68 14 = tI t1 68 14 := by rw [ht65]; rfl
        have kf65_68_19 : tI t65 68 19 = tI t1 68 19 := by rw [ht65]; rfl
        have kf65_68_20 : tI t65 68 20 = tI t1 68 20 := by rw [ht65]; rfl
        have kf65_68_22 : tI t65 68 22 = tI t1 68 22 := by rw [ht65]; rfl
        have fr65 := fr1.uA ht65 (by simp)
        have p1 := ht65
        refine w_aload rfl ?_
        refine w_dupR ?_
        refine w_getI (g_68_22 _) fe_68_22 ok65 (fun z66 hz66 hl66 hh66 => ?_)
        refine w_push kc_1 ?_
        refine w_add ?_
        refine w_putI (p_68_22 _) fe_68_22 ok65 (by omega) (fun t67 ht67 ok67 => ?_)
        have kf67_68_9 : tI t67 68 9 = tI t65 68 9 := by rw [ht67, tI_uI, if_neg (by decide)]
        have kf67_68_10 : tI t67 68 10 = tI t65 68 10 := by rw [ht67, tI_uI, if_neg (by decide)]
        have kf67_68_11 : tI t67 68 11 = tI t65 68 11 := by rw [ht67, tI_uI, if_neg (by decide)]
        have kf67_68_12 : tI t67 68 12 = tI t65 68 12 := by rw [ht67, tI_uI, if_neg (by decide)]
        have kf67_68_13 : tI t67 68 13 = tI t65 68 13 := by rw [ht67, tI_uI, if_neg (by decide)]
        have kf67_68_14 : tI t67 68 14 = tI t65 68 14 := by rw [ht67, tI_uI, if_neg (by decide)]
        have kf67_68_19 : tI t67 68 19 = tI t65 68 19 := by rw [ht67, tI_uI, if_neg (by decide)]
        have kf67_68_20 : tI t67 68 20 = tI t65 68 20 := by rw [ht67, tI_uI, if_neg (by decide)]
        have kf67_68_22 : tI t67 68 22 = (z66 + 1) := by rw [ht67, tI_uI, if_pos ⟨rfl, rfl⟩]
        have fr67 := fr65.uI ht67 (by simp)
        have p2 := ht67
        have eE : EN t67 0 (parens + (if (-11 : Int) = -11 then 1 else 0)) := EN.psh (v := -11) e0 (by omega) (by omega) (by omega) (by omega) (fun i => by rw [p2, tA_uI, p1, tA_uA, if_neg (by omega)]) (fun i => by
          rw [p2, tA_uI, p1, tA_uA]
          by_cases h9 : i = (tI t1 68 22).toNat
          · rw [if_pos (by omega), if_pos h9]
          · rw [if_neg (by omega), if_neg h9])
        refine w_iinc (lv' := [some (.ref 68), some (.int (jI (parens + 1))), some (.int (jI nots)), some (.int (jI wants)), dv o4]) kc_1 rfl rfl ?_
        refine w_aload rfl ?_
        refine w_getR (g_68_23 _) ?_
        refine w_iload rfl ?_
        refine w_push kc_0 ?_
        refine w_iast (i := ((parens + 1)).toNat) (ai_80 _) (nar_bool (by omega)) (by omega) (by omega) (ae_80 _) ok67 (by omega) (fun t68 ht68 ok68 => ?_)
        have kf68_68_9 : tI t68 68 9 = tI t67 68 9 := by rw [ht68]; rfl
        have kf68_68_10 : tI t68 68 10 = tI t67 68 10 := by rw [ht68]; rfl
        have kf68_68_11 : tI t68 68 11 = tI t67 68 11 := by rw [ht68]; rfl
        have kf68_68_12 : tI t68 68 12 = tI t67 68 12 := by rw [ht68]; rfl
        have kf68_68_13 : tI t68 68 13 = tI t67 68 13 := by rw [ht68]; rfl
        have kf68_68_14 : tI t68 68 14 = tI t67 68 14 := by rw [ht68]; rfl
        have kf68_68_19 : tI t68 68 19 = tI t67 68 19 := by rw [ht68]; rfl
        have kf68_68_20 : tI t68 68 20 = tI t67 68 20 := by rw [ht68]; rfl
        have kf68_68_22 : tI t68 68 22 = tI t67 68 22 := by rw [ht68]; rfl
        have fr68 := fr67.uA ht68 (by simp)
        have eE := eE.uAo ht68 (by decide) (by decide)
        refine w_aload rfl ?_
        refine w_callV0V (oj_68 _).choose_spec rfl (c_X9_go ok68 (by omega)) ?_
        rintro t69 ⟨ok69, fq69, hp69_0, hp69_1, hp69_2, hp69_3, hp69_4⟩
        have fr69 := fr68.then fq69 (by simp)
        have kf69_68_9 : tI t69 68 9 = tI t68 68 9 := fq69.1 68 9 (by simp)
        have kf69_68_19 : tI t69 68 19 = tI t68 68 19 := fq69.1 68 19 (by simp)
        have kf69_68_20 : tI t69 68 20 = tI t68 68 20 := fq69.1 68 20 (by simp)
        have kf69_68_22 : tI t69 68 22 = tI t68 68 22 := fq69.1 68 22 (by simp)
        have eE := eE.fr fq69 (by simp) (by simp) (by simp) (by simp)
        refine w_goto ?_
        refine w_step rfl ?_
        refine w_aload rfl ?_
        refine w_callV0I (oj_68 _).choose_spec rfl (c_X9_notsOpen ok69) ?_
        rintro z70 t70 ⟨rfl, hp70_0, hp70_1⟩
        refine w_istore (lv' := [some (.ref 68), some (.int (jI (parens + 1))), some (.int (jI z70)), some (.int (jI wants)), dv o4]) rfl ?_
        refine w_goto ?_
        have eB : EN t69 (1 - wants) ((parens + 1)) := by
          first
            | (have h9 : (1 : Int) - wants = 0 := by omega
               rw [h9]; have h8 : (parens + 1) = parens + (if (-10 : Int) = -11 then 1 else 0) := by simp
               rw [h8]; exact eE)
            | (have h9 : (1 : Int) - wants = 0 := by omega
               rw [h9]; have h8 : (parens + 1) = parens + (if (-11 : Int) = -11 then 1 else 0) := by simp
               rw [h8]; exact eE)
            | (have h9 : (1 : Int) - wants = 1 := by omega
               rw [h9]; exact eP (by omega))
            | (have h9 : (1 : Int) - wants = 1 := by omega
               rw [h9]; have h8 : (parens + 1) = parens - 1 := by omega
               rw [h8]; exact eE)
            | (have h9 : (1 : Int) - wants = 0 := by omega
               rw [h9]; exact eE)
        exact ih1 _ (parens + 1) z70 wants o4 t69 ok69 fr69 eB (by omega) (by omega) (by omega) (by omega) (by omega) (by omega) (by omega) (by omega) (by omega) (by omega) (by omega) (by omega) (by omega) (by omega) (by omega)
      refine w_aload rfl ?_
      refine w_getR (g_68_21 _) ?_
      refine w_aload rfl ?_
      refine w_getI (g_68_22 _) fe_68_22 ok1 (fun z71 hz71 hl71 hh71 => ?_)
      refine w_push kc_m10 ?_
      refine w_iast (i := (z71).toNat) (ai_79 _) rfl (by omega) (by omega) (ae_79 _) ok1 (by omega) (fun t72 ht72 ok72 => ?_)
      have kf72_68_9 : tI t72 68 9 = tI t1 68 9 := by rw [ht72]; rfl
      have kf72_68_10 : tI t72 68 10 = tI t1 68 10 := by rw [ht72]; rfl
      have kf72_68_11 : tI t72 68 11 = tI t1 68 11 := by rw [ht72]; rfl
      have kf72_68_12 : tI t72 68 12 = tI t1 68 12 := by rw [ht72]; rfl
      have kf72_68_13 : tI t72 68 13 = tI t1 68 13 := by rw [ht72]; rfl
      have kf72_68_14 : tI t72 68 14 = tI t1 68 14 := by rw [ht72]; rfl
      have kf72_68_19 : tI t72 68 19 = tI t1 68 19 := by rw [ht72]; rfl
      have kf72_68_20 : tI t72 68 20 = tI t1 68 20 := by rw [ht72]; rfl
      have kf72_68_22 : tI t72 68 22 = tI t1 68 22 := by rw [ht72]; rfl
      have fr72 := fr1.uA ht72 (by simp)
      have p1 := ht72
      refine w_aload rfl ?_
      refine w_dupR ?_
      refine w_getI (g_68_22 _) fe_68_22 ok72 (fun z73 hz73 hl73 hh73 => ?_)
      refine w_push kc_1 ?_
      refine w_add ?_
      refine w_putI (p_68_22 _) fe_68_22 ok72 (by omega) (fun t74 ht74 ok74 => ?_)
      have kf74_68_9 : tI t74 68 9 = tI t72 68 9 := by rw [ht74, tI_uI, if_neg (by decide)]
      have kf74_68_10 : tI t74 68 10 = tI t72 68 10 := by rw [ht74, tI_uI, if_neg (by decide)]
      have kf74_68_11 : tI t74 68 11 = tI t72 68 11 := by rw [ht74, tI_uI, if_neg (by decide)]
      have kf74_68_12 : tI t74 68 12 = tI t72 68 12 := by rw [ht74, tI_uI, if_neg (by decide)]
      have kf74_68_13 : tI t74 68 13 = tI t72 68 13 := by rw [ht74, tI_uI, if_neg (by decide)]
      have kf74_68_14 : tI t74 68 14 = tI t72 68 14 := by rw [ht74, tI_uI, if_neg (by decide)]
      have kf74_68_19 : tI t74 68 19 = tI t72 68 19 := by rw [ht74, tI_uI, if_neg (by decide)]
      have kf74_68_20 : tI t74 68 20 = tI t72 68 20 := by rw [ht74, tI_uI, if_neg (by decide)]
      have kf74_68_22 : tI t74 68 22 = (z73 + 1) := by rw [ht74, tI_uI, if_pos ⟨rfl, rfl⟩]
      have fr74 := fr72.uI ht74 (by simp)
      have p2 := ht74
      have eE : EN t74 0 (parens + (if (-10 : Int) = -11 then 1 else 0)) := EN.psh (v := -10) e0 (by omega) (by omega) (by omega) (by omega) (fun i => by rw [p2, tA_uI, p1, tA_uA, if_neg (by omega)]) (fun i => by
        rw [p2, tA_uI, p1, tA_uA]
        by_cases h9 : i = (tI t1 68 22).toNat
        · rw [if_pos (by omega), if_pos h9]
        · rw [if_neg (by omega), if_neg h9])
      refine w_iinc (lv' := [some (.ref 68), some (.int (jI parens)), some (.int (jI (nots + 1))), some (.int (jI wants)), dv o4]) kc_1 rfl rfl ?_
      refine w_aload rfl ?_
      refine w_callV0V (oj_68 _).choose_spec rfl (c_X9_go ok74 (by omega)) ?_
      rintro t75 ⟨ok75, fq75, hp75_0, hp75_1, hp75_2, hp75_3, hp75_4⟩
      have fr75 := fr74.then fq75 (by simp)
      have kf75_68_9 : tI t75 68 9 = tI t74 68 9 := fq75.1 68 9 (by simp)
      have kf75_68_19 : tI t75 68 19 = tI t74 68 19 := fq75.1 68 19 (by simp)
      have kf75_68_20 : tI t75 68 20 = tI t74 68 20 := fq75.1 68 20 (by simp)
      have kf75_68_22 : tI t75 68 22 = tI t74 68 22 := fq75.1 68 22 (by simp)
      have eE := eE.fr fq75 (by simp) (by simp) (by simp) (by simp)
      refine w_goto ?_
      refine w_step rfl ?_
      refine w_aload rfl ?_
      refine w_callV0I (oj_68 _).choose_spec rfl (c_X9_notsOpen ok75) ?_
      rintro z76 t76 ⟨rfl, hp76_0, hp76_1⟩
      refine w_istore (lv' := [some (.ref 68), some (.int (jI parens)), some (.int (jI z76)), some (.int (jI wants)), dv o4]) rfl ?_
      refine w_goto ?_
      have eB : EN t75 (1 - wants) (parens) := by
        first
          | (have h9 : (1 : Int) - wants = 0 := by omega
             rw [h9]; have h8 : parens = parens + (if (-10 : Int) = -11 then 1 else 0) := by simp
             rw [h8]; exact eE)
          | (have h9 : (1 : Int) - wants = 0 := by omega
             rw [h9]; have h8 : parens = parens + (if (-11 : Int) = -11 then 1 else 0) := by simp
             rw [h8]; exact eE)
          | (have h9 : (1 : Int) - wants = 1 := by omega
             rw [h9]; exact eP (by omega))
          | (have h9 : (1 : Int) - wants = 1 := by omega
             rw [h9]; have h8 : parens = parens - 1 := by omega
             rw [h8]; exact eE)
          | (have h9 : (1 : Int) - wants = 0 := by omega
             rw [h9]; exact eE)
      exact ih1 _ parens z76 wants o4 t75 ok75 fr75 eB (by omega) (by omega) (by omega) (by omega) (by omega) (by omega) (by omega) (by omega) (by omega) (by omega) (by omega) (by omega) (by omega) (by omega) (by omega)
    refine w_aload rfl ?_
    refine w_getI (g_68_12 _) fe_68_12 ok1 (fun z77 hz77 hl77 hh77 => ?_)
    refine w_ieq (by omega) (fun h78 => ?_) (fun h78 => ?_)
    · skip
      refine w_step rfl ?_
      have e1 : EN t1 1 parens := by
        have h9 : 1 - wants = 1 := by omega
        rw [h9] at i1_0
        exact i1_0
      refine w_aload rfl ?_
      refine w_push kc_0 ?_
      refine w_callV1V (oj_68 _).choose_spec rfl (c_X9_settle ok1 e1.1 (by omega) (by omega) (by omega)) ?_
      rintro t79 ⟨ok79, fq79, hp79_0, hp79_1, hp79_2, hp79_3, hp79_4⟩
      have fr79 := fr1.then fq79 (by simp)
      have kf79_68_9 : tI t79 68 9 = tI t1 68 9 := fq79.1 68 9 (by simp)
      have kf79_68_10 : tI t79 68 10 = tI t1 68 10 := fq79.1 68 10 (by simp)
      have kf79_68_11 : tI t79 68 11 = tI t1 68 11 := fq79.1 68 11 (by simp)
      have kf79_68_12 : tI t79 68 12 = tI t1 68 12 := fq79.1 68 12 (by simp)
      have kf79_68_13 : tI t79 68 13 = tI t1 68 13 := fq79.1 68 13 (by simp)
      have kf79_68_14 : tI t79 68 14 = tI t1 68 14 := fq79.1 68 14 (by simp)
      have kf79_68_20 : tI t79 68 20 = tI t1 68 20 := fq79.1 68 20 (by simp)
      have eE := (show EN t1 1 parens from e1).st fq79 (by simp) hp79_0 hp79_4
      have r2 := (ok79.f fe_68_22).1
      refine w_iload rfl ?_
      refine w_ine (by omega) (fun h80 => ?_) (fun h80 => ?_)
      · skip
        refine w_step rfl ?_
        refine w_push kc_0 ?_
        refine w_goto ?_
        refine w_step rfl ?_
        refine w_retI rfl ?_
        exact ⟨ok79, fr79, (by omega), (by omega), (by first | exact (fun _ => eE.1.1) | (intro h9; exact absurd rfl h9)), (by omega)⟩
      refine w_push kc_1 ?_
      refine w_goto ?_
      refine w_step rfl ?_
      refine w_retI rfl ?_
      exact ⟨ok79, fr79, (by omega), (by omega), (by first | exact (fun _ => eE.1.1) | (intro h9; exact absurd rfl h9)), (by omega)⟩
    refine w_goto ?_
    refine w_step rfl ?_
    refine w_iload rfl ?_
    refine w_ieq (by omega) (fun _ => ?_) (fun h => absurd (by omega) h)
    have key8 : ∀ (M8 : Nat) (o4b : Option Int), 100 * n1 + 1060 ≤ M8 → Rn (bX9_takesE (EX FU (d + 3))) M8 8 [some (.ref 68), some (.int (jI parens)), some (.int (jI nots)), some (.int (jI wants)), dv o4b] [] (mk t1) (PI (fun z t' => OK t' ∧ Fr [(68, 10), (68, 11), (68, 12), (68, 13), (68, 14), (68, 19), (68, 20), (68, 22), (78, 100), (79, 100), (80, 100)] t t' ∧ (0 ≤ z) ∧ (z ≤ 1) ∧ (¬ z = 0 → wfC (tA t' 78) (tI t' 68 19).toNat) ∧ (tI t' 68 19 ≤ 95 ∨ z = 0))) := by
      intro M8 o4b f8
      obtain ⟨M8, rfl⟩ : ∃ m, M8 = m + 60 := ⟨M8 - 60, by omega⟩
      have e1 : EN t1 1 parens := by
        have h9 : 1 - wants = 1 := by omega
        rw [h9] at i1_0
        exact i1_0
      have key10 : ∀ (M10 : Nat) (sg : Int), (-9 ≤ sg) → (sg ≤ -1) → 100 * n1 + 1030 ≤ M10 → Rn (bX9_takesE (EX FU (d + 3))) M10 10 [some (.ref 68), some (.int (jI parens)), some (.int (jI nots)), some (.int (jI wants)), some (.int (jI sg))] [] (mk t1) (PI (fun z t' => OK t' ∧ Fr [(68, 10), (68, 11), (68, 12), (68, 13), (68, 14), (68, 19), (68, 20), (68, 22), (78, 100), (79, 100), (80, 100)] t t' ∧ (0 ≤ z) ∧ (z ≤ 1) ∧ (¬ z = 0 → wfC (tA t' 78) (tI t' 68 19).toNat) ∧ (tI t' 68 19 ≤ 95 ∨ z = 0))) := by
        intro M10 sg i10_0 i10_1 f10
        obtain ⟨M10, rfl⟩ : ∃ m, M10 = m + 30 := ⟨M10 - 30, by omega⟩
        refine w_step rfl ?_
        refine w_aload rfl ?_
        refine w_getR (g_68_23 _) ?_
        refine w_iload rfl ?_
        refine w_iload rfl ?_
        refine w_callS1I rfl (c_X9_rank ok1 (by omega) (by omega)) ?_
        rintro z81 t81 ⟨rfl, hp81_0, hp81_1⟩
        refine w_push kc_3 ?_
        refine w_ceq (by omega) (fun h82 => ?_) (fun h82 => ?_)
        · skip
          refine w_step rfl ?_
          refine w_push kc_1 ?_
          refine w_goto ?_
          refine w_step rfl ?_
          refine w_iast (i := (parens).toNat) (ai_80 _) (nar_bool (by omega)) (by omega) (by omega) (ae_80 _) ok1 (by omega) (fun t83 ht83 ok83 => ?_)
          have kf83_68_9 : tI t83 68 9 = tI t1 68 9 := by rw [ht83]; rfl
          have kf83_68_10 : tI t83 68 10 = tI t1 68 10 := by rw [ht83]; rfl
          have kf83_68_11 : tI t83 68 11 = tI t1 68 11 := by rw [ht83]; rfl
          have kf83_68_12 : tI t83 68 12 = tI t1 68 12 := by rw [ht83]; rfl
          have kf83_68_13 : tI t83 68 13 = tI t1 68 13 := by rw [ht83]; rfl
          have kf83_68_14 : tI t83 68 14 = tI t1 68 14 := by rw [ht83]; rfl
          have kf83_68_19 : tI t83 68 19 = tI t1 68 19 := by rw [ht83]; rfl
          have kf83_68_20 : tI t83 68 20 = tI t1 68 20 := by rw [ht83]; rfl
          have kf83_68_22 : tI t83 68 22 = tI t1 68 22 := by rw [ht83]; rfl
          have fr83 := fr1.uA ht83 (by simp)
          have eE := (show EN t1 1 parens from e1).uAo ht83 (by decide) (by decide)
          refine w_aload rfl ?_
          refine w_iload rfl ?_
          refine w_callS1I rfl (c_X9_rank ok83 (by omega) (by omega)) ?_
          rintro z84 t84 ⟨rfl, hp84_0, hp84_1⟩
          refine w_callV1V (oj_68 _).choose_spec rfl (c_X9_settle ok83 eE.1 (by omega) (by omega) (by omega)) ?_
          rintro t85 ⟨ok85, fq85, hp85_0, hp85_1, hp85_2, hp85_3, hp85_4⟩
          have fr85 := fr83.then fq85 (by simp)
          have kf85_68_9 : tI t85 68 9 = tI t83 68 9 := fq85.1 68 9 (by simp)
          have kf85_68_10 : tI t85 68 10 = tI t83 68 10 := fq85.1 68 10 (by simp)
          have kf85_68_11 : tI t85 68 11 = tI t83 68 11 := fq85.1 68 11 (by simp)
          have kf85_68_12 : tI t85 68 12 = tI t83 68 12 := fq85.1 68 12 (by simp)
          have kf85_68_13 : tI t85 68 13 = tI t83 68 13 := fq85.1 68 13 (by simp)
          have kf85_68_14 : tI t85 68 14 = tI t83 68 14 := fq85.1 68 14 (by simp)
          have kf85_68_20 : tI t85 68 20 = tI t83 68 20 := fq85.1 68 20 (by simp)
          have eE := eE.st fq85 (by simp) hp85_0 hp85_4
          have rS := (ok85.f fe_68_22).1
          refine w_aload rfl ?_
          refine w_getR (g_68_21 _) ?_
          refine w_aload rfl ?_
          refine w_getI (g_68_22 _) fe_68_22 ok85 (fun z86 hz86 hl86 hh86 => ?_)
          refine w_iload rfl ?_
          refine w_iast (i := (z86).toNat) (ai_79 _) rfl (by omega) (by omega) (ae_79 _) ok85 (by omega) (fun t87 ht87 ok87 => ?_)
          have kf87_68_9 : tI t87 68 9 = tI t85 68 9 := by rw [ht87]; rfl
          have kf87_68_10 : tI t87 68 10 = tI t85 68 10 := by rw [ht87]; rfl
          have kf87_68_11 : tI t87 68 11 = tI t85 68 11 := by rw [ht87]; rfl
          have kf87_68_12 : tI t87 68 12 = tI t85 68 12 := by rw [ht87]; rfl
          have kf87_68_13 : tI t87 68 13 = tI t85 68 13 := by rw [ht87]; rfl
          have kf87_68_14 : tI t87 68 14 = tI t85 68 14 := by rw [ht87]; rfl
          have kf87_68_19 : tI t87 68 19 = tI t85 68 19 := by rw [ht87]; rfl
          have kf87_68_20 : tI t87 68 20 = tI t85 68 20 := by rw [ht87]; rfl
          have kf87_68_22 : tI t87 68 22 = tI t85 68 22 := by rw [ht87]; rfl
          have fr87 := fr85.uA ht87 (by simp)
          have p1 := ht87
          refine w_aload rfl ?_
          refine w_dupR ?_
          refine w_getI (g_68_22 _) fe_68_22 ok87 (fun z88 hz88 hl88 hh88 => ?_)
          refine w_push kc_1 ?_
          refine w_add ?_
          refine w_putI (p_68_22 _) fe_68_22 ok87 (by omega) (fun t89 ht89 ok89 => ?_)
          have kf89_68_9 : tI t89 68 9 = tI t87 68 9 := by rw [ht89, tI_uI, if_neg (by decide)]
          have kf89_68_10 : tI t89 68 10 = tI t87 68 10 := by rw [ht89, tI_uI, if_neg (by decide)]
          have kf89_68_11 : tI t89 68 11 = tI t87 68 11 := by rw [ht89, tI_uI, if_neg (by decide)]
          have kf89_68_12 : tI t89 68 12 = tI t87 68 12 := by rw [ht89, tI_uI, if_neg (by decide)]
          have kf89_68_13 : tI t89 68 13 = tI t87 68 13 := by rw [ht89, tI_uI, if_neg (by decide)]
          have kf89_68_14 : tI t89 68 14 = tI t87 68 14 := by rw [ht89, tI_uI, if_neg (by decide)]
          have kf89_68_19 : tI t89 68 19 = tI t87 68 19 := by rw [ht89, tI_uI, if_neg (by decide)]
          have kf89_68_20 : tI t89 68 20 = tI t87 68 20 := by rw [ht89, tI_uI, if_neg (by decide)]
          have kf89_68_22 : tI t89 68 22 = (z88 + 1) := by rw [ht89, tI_uI, if_pos ⟨rfl, rfl⟩]
          have fr89 := fr87.uI ht89 (by simp)
          have p2 := ht89
          have eE : EN t89 0 parens := eE.bin (v := sg) (by omega) (by omega) (by omega) (by omega) (fun i => by rw [p2, tA_uI, p1, tA_uA, if_neg (by omega)]) (fun i => by
            rw [p2, tA_uI, p1, tA_uA]
            by_cases h9 : i = (tI t85 68 22).toNat
            · rw [if_pos (by omega), if_pos h9]
            · rw [if_neg (by omega), if_neg h9])
          refine w_push kc_1 ?_
          refine w_istore (lv' := [some (.ref 68), some (.int (jI parens)), some (.int (jI nots)), some (.int (jI 1)), some (.int (jI sg))]) rfl ?_
          refine w_aload rfl ?_
          refine w_callV0V (oj_68 _).choose_spec rfl (c_X9_go ok89 (by omega)) ?_
          rintro t90 ⟨ok90, fq90, hp90_0, hp90_1, hp90_2, hp90_3, hp90_4⟩
          have fr90 := fr89.then fq90 (by simp)
          have kf90_68_9 : tI t90 68 9 = tI t89 68 9 := fq90.1 68 9 (by simp)
          have kf90_68_19 : tI t90 68 19 = tI t89 68 19 := fq90.1 68 19 (by simp)
          have kf90_68_20 : tI t90 68 20 = tI t89 68 20 := fq90.1 68 20 (by simp)
          have kf90_68_22 : tI t90 68 22 = tI t89 68 22 := fq90.1 68 22 (by simp)
          have eE := eE.fr fq90 (by simp) (by simp) (by simp) (by simp)
          refine w_goto ?_
          have eB : EN t90 (1 - 1) (parens) := by
            first
              | (have h9 : (1 : Int) - 1 = 0 := by omega
                 rw [h9]; have h8 : parens = parens + (if (-10 : Int) = -11 then 1 else 0) := by simp
                 rw [h8]; exact eE)
              | (have h9 : (1 : Int) - 1 = 0 := by omega
                 rw [h9]; have h8 : parens = parens + (if (-11 : Int) = -11 then 1 else 0) := by simp
                 rw [h8]; exact eE)
              | (have h9 : (1 : Int) - 1 = 1 := by omega
                 rw [h9]; exact eP (by omega))
              | (have h9 : (1 : Int) - 1 = 1 := by omega
                 rw [h9]; have h8 : parens = parens - 1 := by omega
                 rw [h8]; exact eE)
              | (have h9 : (1 : Int) - 1 = 0 := by omega
                 rw [h9]; exact eE)
          exact ih1 _ parens nots 1 (some sg) t90 ok90 fr90 eB (by omega) (by omega) (by omega) (by omega) (by omega) (by omega) (by omega) (by omega) (by omega) (by omega) (by omega) (by omega) (by omega) (by omega) (by omega)
        refine w_iload rfl ?_
        refine w_callS1I rfl (c_X9_rank ok1 (by omega) (by omega)) ?_
        rintro z91 t91 ⟨rfl, hp91_0, hp91_1⟩
        refine w_push kc_3 ?_
        refine w_cle (by omega) (fun h92 => ?_) (fun h92 => ?_)
        · skip
          refine w_step rfl ?_
          refine w_push kc_0 ?_
          refine w_goto ?_
          refine w_step rfl ?_
          refine w_iast (i := (parens).toNat) (ai_80 _) (nar_bool (by omega)) (by omega) (by omega) (ae_80 _) ok1 (by omega) (fun t93 ht93 ok93 => ?_)
          have kf93_68_9 : tI t93 68 9 = tI t1 68 9 := by rw [ht93]; rfl
          have kf93_68_10 : tI t93 68 10 = tI t1 68 10 := by rw [ht93]; rfl
          have kf93_68_11 : tI t93 68 11 = tI t1 68 11 := by rw [ht93]; rfl
          have kf93_68_12 : tI t93 68 12 = tI t1 68 12 := by rw [ht93]; rfl
          have kf93_68_13 : tI t93 68 13 = tI t1 68 13 := by rw [ht93]; rfl
          have kf93_68_14 : tI t93 68 14 = tI t1 68 14 := by rw [ht93]; rfl
          have kf93_68_19 : tI t93 68 19 = tI t1 68 19 := by rw [ht93]; rfl
          have kf93_68_20 : tI t93 68 20 = tI t1 68 20 := by rw [ht93]; rfl
          have kf93_68_22 : tI t93 68 22 = tI t1 68 22 := by rw [ht93]; rfl
          have fr93 := fr1.uA ht93 (by simp)
          have eE := (show EN t1 1 parens from e1).uAo ht93 (by decide) (by decide)
          refine w_aload rfl ?_
          refine w_iload rfl ?_
          refine w_callS1I rfl (c_X9_rank ok93 (by omega) (by omega)) ?_
          rintro z94 t94 ⟨rfl, hp94_0, hp94_1⟩
          refine w_callV1V (oj_68 _).choose_spec rfl (c_X9_settle ok93 eE.1 (by omega) (by omega) (by omega)) ?_
          rintro t95 ⟨ok95, fq95, hp95_0, hp95_1, hp95_2, hp95_3, hp95_4⟩
          have fr95 := fr93.then fq95 (by simp)
          have kf95_68_9 : tI t95 68 9 = tI t93 68 9 := fq95.1 68 9 (by simp)
          have kf95_68_10 : tI t95 68 10 = tI t93 68 10 := fq95.1 68 10 (by simp)
          have kf95_68_11 : tI t95 68 11 = tI t93 68 11 := fq95.1 68 11 (by simp)
          have kf95_68_12 : tI t95 68 12 = tI t93 68 12 := fq95.1 68 12 (by simp)
          have kf95_68_13 : tI t95 68 13 = tI t93 68 13 := fq95.1 68 13 (by simp)
          have kf95_68_14 : tI t95 68 14 = tI t93 68 14 := fq95.1 68 14 (by simp)
          have kf95_68_20 : tI t95 68 20 = tI t93 68 20 := fq95.1 68 20 (by simp)
          have eE := eE.st fq95 (by simp) hp95_0 hp95_4
          have rS := (ok95.f fe_68_22).1
          refine w_aload rfl ?_
          refine w_getR (g_68_21 _) ?_
          refine w_aload rfl ?_
          refine w_getI (g_68_22 _) fe_68_22 ok95 (fun z96 hz96 hl96 hh96 => ?_)
          refine w_iload rfl ?_
          refine w_iast (i := (z96).toNat) (ai_79 _) rfl (by omega) (by omega) (ae_79 _) ok95 (by omega) (fun t97 ht97 ok97 => ?_)
          have kf97_68_9 : tI t97 68 9 = tI t95 68 9 := by rw [ht97]; rfl
          have kf97_68_10 : tI t97 68 10 = tI t95 68 10 := by rw [ht97]; rfl
          have kf97_68_11 : tI t97 68 11 = tI t95 68 11 := by rw [ht97]; rfl
          have kf97_68_12 : tI t97 68 12 = tI t95 68 12 := by rw [ht97]; rfl
          have kf97_68_13 : tI t97 68 13 = tI t95 68 13 := by rw [ht97]; rfl
          have kf97_68_14 : tI t97 68 14 = tI t95 68 14 := by rw [ht97]; rfl
          have kf97_68_19 : tI t97 68 19 = tI t95 68 19 := by rw [ht97]; rfl
          have kf97_68_20 : tI t97 68 20 = tI t95 68 20 := by rw [ht97]; rfl
          have kf97_68_22 : tI t97 68 22 = tI t95 68 22 := by rw [ht97]; rfl
          have fr97 := fr95.uA ht97 (by simp)
          have p1 := ht97
          refine w_aload rfl ?_
          refine w_dupR ?_
          refine w_getI (g_68_22 _) fe_68_22 ok97 (fun z98 hz98 hl98 hh98 => ?_)
          refine w_push kc_1 ?_
          refine w_add ?_
          refine w_putI (p_68_22 _) fe_68_22 ok97 (by omega) (fun t99 ht99 ok99 => ?_)
          have kf99_68_9 : tI t99 68 9 = tI t97 68 9 := by rw [ht99, tI_uI, if_neg (by decide)]
          have kf99_68_10 : tI t99 68 10 = tI t97 68 10 := by rw [ht99, tI_uI, if_neg (by decide)]
          have kf99_68_11 : tI t99 68 11 = tI t97 68 11 := by rw [ht99, tI_uI, if_neg (by decide)]
          have kf99_68_12 : tI t99 68 12 = tI t97 68 12 := by rw [ht99, tI_uI, if_neg (by decide)]
          have kf99_68_13 : tI t99 68 13 = tI t97 68 13 := by rw [ht99, tI_uI, if_neg (by decide)]
          have kf99_68_14 : tI t99 68 14 = tI t97 68 14 := by rw [ht99, tI_uI, if_neg (by decide)]
          have kf99_68_19 : tI t99 68 19 = tI t97 68 19 := by rw [ht99, tI_uI, if_neg (by decide)]
          have kf99_68_20 : tI t99 68 20 = tI t97 68 20 := by rw [ht99, tI_uI, if_neg (by decide)]
          have kf99_68_22 : tI t99 68 22 = (z98 + 1) := by rw [ht99, tI_uI, if_pos ⟨rfl, rfl⟩]
          have fr99 := fr97.uI ht99 (by simp)
          have p2 := ht99
          have eE : EN t99 0 parens := eE.bin (v := sg) (by omega) (by omega) (by omega) (by omega) (fun i => by rw [p2, tA_uI, p1, tA_uA, if_neg (by omega)]) (fun i => by
            rw [p2, tA_uI, p1, tA_uA]
            by_cases h9 : i = (tI t95 68 22).toNat
            · rw [if_pos (by omega), if_pos h9]
            · rw [if_neg (by omega), if_neg h9])
          refine w_push kc_1 ?_
          refine w_istore (lv' := [some (.ref 68), some (.int (jI parens)), some (.int (jI nots)), some (.int (jI 1)), some (.int (jI sg))]) rfl ?_
          refine w_aload rfl ?_
          refine w_callV0V (oj_68 _).choose_spec rfl (c_X9_go ok99 (by omega)) ?_
          rintro t100 ⟨ok100, fq100, hp100_0, hp100_1, hp100_2, hp100_3, hp100_4⟩
          have fr100 := fr99.then fq100 (by simp)
          have kf100_68_9 : tI t100 68 9 = tI t99 68 9 := fq100.1 68 9 (by simp)
          have kf100_68_19 : tI t100 68 19 = tI t99 68 19 := fq100.1 68 19 (by simp)
          have kf100_68_20 : tI t100 68 20 = tI t99 68 20 := fq100.1 68 20 (by simp)
          have kf100_68_22 : tI t100 68 22 = tI t99 68 22 := fq100.1 68 22 (by simp)
          have eE := eE.fr fq100 (by simp) (by simp) (by simp) (by simp)
          refine w_goto ?_
          have eB : EN t100 (1 - 1) (parens) := by
            first
              | (have h9 : (1 : Int) - 1 = 0 := by omega
                 rw [h9]; have h8 : parens = parens + (if (-10 : Int) = -11 then 1 else 0) := by simp
                 rw [h8]; exact eE)
              | (have h9 : (1 : Int) - 1 = 0 := by omega
                 rw [h9]; have h8 : parens = parens + (if (-11 : Int) = -11 then 1 else 0) := by simp
                 rw [h8]; exact eE)
              | (have h9 : (1 : Int) - 1 = 1 := by omega
                 rw [h9]; exact eP (by omega))
              | (have h9 : (1 : Int) - 1 = 1 := by omega
                 rw [h9]; have h8 : parens = parens - 1 := by omega
                 rw [h8]; exact eE)
              | (have h9 : (1 : Int) - 1 = 0 := by omega
                 rw [h9]; exact eE)
          exact ih1 _ parens nots 1 (some sg) t100 ok100 fr100 eB (by omega) (by omega) (by omega) (by omega) (by omega) (by omega) (by omega) (by omega) (by omega) (by omega) (by omega) (by omega) (by omega) (by omega) (by omega)
        refine w_aload rfl ?_
        refine w_getR (g_68_23 _) ?_
        refine w_iload rfl ?_
        refine w_iald (i := (parens).toNat) (ai_80 _) (by omega) (by omega) (ae_80 _) ok1 (fun z101 hz101 hl101 hh101 => ?_)
        refine w_ieq (by omega) (fun h102 => ?_) (fun h102 => ?_)
        · skip
          refine w_step rfl ?_
          refine w_push kc_0 ?_
          refine w_goto ?_
          refine w_step rfl ?_
          refine w_iast (i := (parens).toNat) (ai_80 _) (nar_bool (by omega)) (by omega) (by omega) (ae_80 _) ok1 (by omega) (fun t103 ht103 ok103 => ?_)
          have kf103_68_9 : tI t103 68 9 = tI t1 68 9 := by rw [ht103]; rfl
          have kf103_68_10 : tI t103 68 10 = tI t1 68 10 := by rw [ht103]; rfl
          have kf103_68_11 : tI t103 68 11 = tI t1 68 11 := by rw [ht103]; rfl
          have kf103_68_12 : tI t103 68 12 = tI t1 68 12 := by rw [ht103]; rfl
          have kf103_68_13 : tI t103 68 13 = tI t1 68 13 := by rw [ht103]; rfl
          have kf103_68_14 : tI t103 68 14 = tI t1 68 14 := by rw [ht103]; rfl
          have kf103_68_19 : tI t103 68 19 = tI t1 68 19 := by rw [ht103]; rfl
          have kf103_68_20 : tI t103 68 20 = tI t1 68 20 := by rw [ht103]; rfl
          have kf103_68_22 : tI t103 68 22 = tI t1 68 22 := by rw [ht103]; rfl
          have fr103 := fr1.uA ht103 (by simp)
          have eE := (show EN t1 1 parens from e1).uAo ht103 (by decide) (by decide)
          refine w_aload rfl ?_
          refine w_iload rfl ?_
          refine w_callS1I rfl (c_X9_rank ok103 (by omega) (by omega)) ?_
          rintro z104 t104 ⟨rfl, hp104_0, hp104_1⟩
          refine w_callV1V (oj_68 _).choose_spec rfl (c_X9_settle ok103 eE.1 (by omega) (by omega) (by omega)) ?_
          rintro t105 ⟨ok105, fq105, hp105_0, hp105_1, hp105_2, hp105_3, hp105_4⟩
          have fr105 := fr103.then fq105 (by simp)
          have kf105_68_9 : tI t105 68 9 = tI t103 68 9 := fq105.1 68 9 (by simp)
          have kf105_68_10 : tI t105 68 10 = tI t103 68 10 := fq105.1 68 10 (by simp)
          have kf105_68_11 : tI t105 68 11 = tI t103 68 11 := fq105.1 68 11 (by simp)
          have kf105_68_12 : tI t105 68 12 = tI t103 68 12 := fq105.1 68 12 (by simp)
          have kf105_68_13 : tI t105 68 13 = tI t103 68 13 := fq105.1 68 13 (by simp)
          have kf105_68_14 : tI t105 68 14 = tI t103 68 14 := fq105.1 68 14 (by simp)
          have kf105_68_20 : tI t105 68 20 = tI t103 68 20 := fq105.1 68 20 (by simp)
          have eE := eE.st fq105 (by simp) hp105_0 hp105_4
          have rS := (ok105.f fe_68_22).1
          refine w_aload rfl ?_
          refine w_getR (g_68_21 _) ?_
          refine w_aload rfl ?_
          refine w_getI (g_68_22 _) fe_68_22 ok105 (fun z106 hz106 hl106 hh106 => ?_)
          refine w_iload rfl ?_
          refine w_iast (i := (z106).toNat) (ai_79 _) rfl (by omega) (by omega) (ae_79 _) ok105 (by omega) (fun t107 ht107 ok107 => ?_)
          have kf107_68_9 : tI t107 68 9 = tI t105 68 9 := by rw [ht107]; rfl
          have kf107_68_10 : tI t107 68 10 = tI t105 68 10 := by rw [ht107]; rfl
          have kf107_68_11 : tI t107 68 11 = tI t105 68 11 := by rw [ht107]; rfl
          have kf107_68_12 : tI t107 68 12 = tI t105 68 12 := by rw [ht107]; rfl
          have kf107_68_13 : tI t107 68 13 = tI t105 68 13 := by rw [ht107]; rfl
          have kf107_68_14 : tI t107 68 14 = tI t105 68 14 := by rw [ht107]; rfl
          have kf107_68_19 : tI t107 68 19 = tI t105 68 19 := by rw [ht107]; rfl
          have kf107_68_20 : tI t107 68 20 = tI t105 68 20 := by rw [ht107]; rfl
          have kf107_68_22 : tI t107 68 22 = tI t105 68 22 := by rw [ht107]; rfl
          have fr107 := fr105.uA ht107 (by simp)
          have p1 := ht107
          refine w_aload rfl ?_
          refine w_dupR ?_
          refine w_getI (g_68_22 _) fe_68_22 ok107 (fun z108 hz108 hl108 hh108 => ?_)
          refine w_push kc_1 ?_
          refine w_add ?_
          refine w_putI (p_68_22 _) fe_68_22 ok107 (by omega) (fun t109 ht109 ok109 => ?_)
          have kf109_68_9 : tI t109 68 9 = tI t107 68 9 := by rw [ht109, tI_uI, if_neg (by decide)]
          have kf109_68_10 : tI t109 68 10 = tI t107 68 10 := by rw [ht109, tI_uI, if_neg (by decide)]
          have kf109_68_11 : tI t109 68 11 = tI t107 68 11 := by rw [ht109, tI_uI, if_neg (by decide)]
          have kf109_68_12 : tI t109 68 12 = tI t107 68 12 := by rw [ht109, tI_uI, if_neg (by decide)]
          have kf109_68_13 : tI t109 68 13 = tI t107 68 13 := by rw [ht109, tI_uI, if_neg (by decide)]
          have kf109_68_14 : tI t109 68 14 = tI t107 68 14 := by rw [ht109, tI_uI, if_neg (by decide)]
          have kf109_68_19 : tI t109 68 19 = tI t107 68 19 := by rw [ht109, tI_uI, if_neg (by decide)]
          have kf109_68_20 : tI t109 68 20 = tI t107 68 20 := by rw [ht109, tI_uI, if_neg (by decide)]
          have kf109_68_22 : tI t109 68 22 = (z108 + 1) := by rw [ht109, tI_uI, if_pos ⟨rfl, rfl⟩]
          have fr109 := fr107.uI ht109 (by simp)
          have p2 := ht109
          have eE : EN t109 0 parens := eE.bin (v := sg) (by omega) (by omega) (by omega) (by omega) (fun i => by rw [p2, tA_uI, p1, tA_uA, if_neg (by omega)]) (fun i => by
            rw [p2, tA_uI, p1, tA_uA]
            by_cases h9 : i = (tI t105 68 22).toNat
            · rw [if_pos (by omega), if_pos h9]
            · rw [if_neg (by omega), if_neg h9])
          refine w_push kc_1 ?_
          refine w_istore (lv' := [some (.ref 68), some (.int (jI parens)), some (.int (jI nots)), some (.int (jI 1)), some (.int (jI sg))]) rfl ?_
          refine w_aload rfl ?_
          refine w_callV0V (oj_68 _).choose_spec rfl (c_X9_go ok109 (by omega)) ?_
          rintro t110 ⟨ok110, fq110, hp110_0, hp110_1, hp110_2, hp110_3, hp110_4⟩
          have fr110 := fr109.then fq110 (by simp)
          have kf110_68_9 : tI t110 68 9 = tI t109 68 9 := fq110.1 68 9 (by simp)
          have kf110_68_19 : tI t110 68 19 = tI t109 68 19 := fq110.1 68 19 (by simp)
          have kf110_68_20 : tI t110 68 20 = tI t109 68 20 := fq110.1 68 20 (by simp)
          have kf110_68_22 : tI t110 68 22 = tI t109 68 22 := fq110.1 68 22 (by simp)
          have eE := eE.fr fq110 (by simp) (by simp) (by simp) (by simp)
          refine w_goto ?_
          have eB : EN t110 (1 - 1) (parens) := by
            first
              | (have h9 : (1 : Int) - 1 = 0 := by omega
                 rw [h9]; have h8 : parens = parens + (if (-10 : Int) = -11 then 1 else 0) := by simp
                 rw [h8]; exact eE)
              | (have h9 : (1 : Int) - 1 = 0 := by omega
                 rw [h9]; have h8 : parens = parens + (if (-11 : Int) = -11 then 1 else 0) := by simp
                 rw [h8]; exact eE)
              | (have h9 : (1 : Int) - 1 = 1 := by omega
                 rw [h9]; exact eP (by omega))
              | (have h9 : (1 : Int) - 1 = 1 := by omega
                 rw [h9]; have h8 : parens = parens - 1 := by omega
                 rw [h8]; exact eE)
              | (have h9 : (1 : Int) - 1 = 0 := by omega
                 rw [h9]; exact eE)
          exact ih1 _ parens nots 1 (some sg) t110 ok110 fr110 eB (by omega) (by omega) (by omega) (by omega) (by omega) (by omega) (by omega) (by omega) (by omega) (by omega) (by omega) (by omega) (by omega) (by omega) (by omega)
        refine w_goto ?_
        refine w_step rfl ?_
        refine w_push kc_1 ?_
        refine w_goto ?_
        refine w_step rfl ?_
        refine w_iast (i := (parens).toNat) (ai_80 _) (nar_bool (by omega)) (by omega) (by omega) (ae_80 _) ok1 (by omega) (fun t111 ht111 ok111 => ?_)
        have kf111_68_9 : tI t111 68 9 = tI t1 68 9 := by rw [ht111]; rfl
        have kf111_68_10 : tI t111 68 10 = tI t1 68 10 := by rw [ht111]; rfl
        have kf111_68_11 : tI t111 68 11 = tI t1 68 11 := by rw [ht111]; rfl
        have kf111_68_12 : tI t111 68 12 = tI t1 68 12 := by rw [ht111]; rfl
        have kf111_68_13 : tI t111 68 13 = tI t1 68 13 := by rw [ht111]; rfl
        have kf111_68_14 : tI t111 68 14 = tI t1 68 14 := by rw [ht111]; rfl
        have kf111_68_19 : tI t111 68 19 = tI t1 68 19 := by rw [ht111]; rfl
        have kf111_68_20 : tI t111 68 20 = tI t1 68 20 := by rw [ht111]; rfl
        have kf111_68_22 : tI t111 68 22 = tI t1 68 22 := by rw [ht111]; rfl
        have fr111 := fr1.uA ht111 (by simp)
        have eE := (show EN t1 1 parens from e1).uAo ht111 (by decide) (by decide)
        refine w_aload rfl ?_
        refine w_iload rfl ?_
        refine w_callS1I rfl (c_X9_rank ok111 (by omega) (by omega)) ?_
        rintro z112 t112 ⟨rfl, hp112_0, hp112_1⟩
        refine w_callV1V (oj_68 _).choose_spec rfl (c_X9_settle ok111 eE.1 (by omega) (by omega) (by omega)) ?_
        rintro t113 ⟨ok113, fq113, hp113_0, hp113_1, hp113_2, hp113_3, hp113_4⟩
        have fr113 := fr111.then fq113 (by simp)
        have kf113_68_9 : tI t113 68 9 = tI t111 68 9 := fq113.1 68 9 (by simp)
        have kf113_68_10 : tI t113 68 10 = tI t111 68 10 := fq113.1 68 10 (by simp)
        have kf113_68_11 : tI t113 68 11 = tI t111 68 11 := fq113.1 68 11 (by simp)
        have kf113_68_12 : tI t113 68 12 = tI t111 68 12 := fq113.1 68 12 (by simp)
        have kf113_68_13 : tI t113 68 13 = tI t111 68 13 := fq113.1 68 13 (by simp)
        have kf113_68_14 : tI t113 68 14 = tI t111 68 14 := fq113.1 68 14 (by simp)
        have kf113_68_20 : tI t113 68 20 = tI t111 68 20 := fq113.1 68 20 (by simp)
        have eE := eE.st fq113 (by simp) hp113_0 hp113_4
        have rS := (ok113.f fe_68_22).1
        refine w_aload rfl ?_
        refine w_getR (g_68_21 _) ?_
        refine w_aload rfl ?_
        refine w_getI (g_68_22 _) fe_68_22 ok113 (fun z114 hz114 hl114 hh114 => ?_)
        refine w_iload rfl ?_
        refine w_iast (i := (z114).toNat) (ai_79 _) rfl (by omega) (by omega) (ae_79 _) ok113 (by omega) (fun t115 ht115 ok115 => ?_)
        have kf115_68_9 : tI t115 68 9 = tI t113 68 9 := by rw [ht115]; rfl
        have kf115_68_10 : tI t115 68 10 = tI t113 68 10 := by rw [ht115]; rfl
        have kf115_68_11 : tI t115 68 11 = tI t113 68 11 := by rw [ht115]; rfl
        have kf115_68_12 : tI t115 68 12 = tI t113 68 12 := by rw [ht115]; rfl
        have kf115_68_13 : tI t115 68 13 = tI t113 68 13 := by rw [ht115]; rfl
        have kf115_68_14 : tI t115 68 14 = tI t113 68 14 := by rw [ht115]; rfl
        have kf115_68_19 : tI t115 68 19 = tI t113 68 19 := by rw [ht115]; rfl
        have kf115_68_20 : tI t115 68 20 = tI t113 68 20 := by rw [ht115]; rfl
        have kf115_68_22 : tI t115 68 22 = tI t113 68 22 := by rw [ht115]; rfl
        have fr115 := fr113.uA ht115 (by simp)
        have p1 := ht115
        refine w_aload rfl ?_
        refine w_dupR ?_
        refine w_getI (g_68_22 _) fe_68_22 ok115 (fun z116 hz116 hl116 hh116 => ?_)
        refine w_push kc_1 ?_
        refine w_add ?_
        refine w_putI (p_68_22 _) fe_68_22 ok115 (by omega) (fun t117 ht117 ok117 => ?_)
        have kf117_68_9 : tI t117 68 9 = tI t115 68 9 := by rw [ht117, tI_uI, if_neg (by decide)]
        have kf117_68_10 : tI t117 68 10 = tI t115 68 10 := by rw [ht117, tI_uI, if_neg (by decide)]
        have kf117_68_11 : tI t117 68 11 = tI t115 68 11 := by rw [ht117, tI_uI, if_neg (by decide)]
        have kf117_68_12 : tI t117 68 12 = tI t115 68 12 := by rw [ht117, tI_uI, if_neg (by decide)]
        have kf117_68_13 : tI t117 68 13 = tI t115 68 13 := by rw [ht117, tI_uI, if_neg (by decide)]
        have kf117_68_14 : tI t117 68 14 = tI t115 68 14 := by rw [ht117, tI_uI, if_neg (by decide)]
        have kf117_68_19 : tI t117 68 19 = tI t115 68 19 := by rw [ht117, tI_uI, if_neg (by decide)]
        have kf117_68_20 : tI t117 68 20 = tI t115 68 20 := by rw [ht117, tI_uI, if_neg (by decide)]
        have kf117_68_22 : tI t117 68 22 = (z116 + 1) := by rw [ht117, tI_uI, if_pos ⟨rfl, rfl⟩]
        have fr117 := fr115.uI ht117 (by simp)
        have p2 := ht117
        have eE : EN t117 0 parens := eE.bin (v := sg) (by omega) (by omega) (by omega) (by omega) (fun i => by rw [p2, tA_uI, p1, tA_uA, if_neg (by omega)]) (fun i => by
          rw [p2, tA_uI, p1, tA_uA]
          by_cases h9 : i = (tI t113 68 22).toNat
          · rw [if_pos (by omega), if_pos h9]
          · rw [if_neg (by omega), if_neg h9])
        refine w_push kc_1 ?_
        refine w_istore (lv' := [some (.ref 68), some (.int (jI parens)), some (.int (jI nots)), some (.int (jI 1)), some (.int (jI sg))]) rfl ?_
        refine w_aload rfl ?_
        refine w_callV0V (oj_68 _).choose_spec rfl (c_X9_go ok117 (by omega)) ?_
        rintro t118 ⟨ok118, fq118, hp118_0, hp118_1, hp118_2, hp118_3, hp118_4⟩
        have fr118 := fr117.then fq118 (by simp)
        have kf118_68_9 : tI t118 68 9 = tI t117 68 9 := fq118.1 68 9 (by simp)
        have kf118_68_19 : tI t118 68 19 = tI t117 68 19 := fq118.1 68 19 (by simp)
        have kf118_68_20 : tI t118 68 20 = tI t117 68 20 := fq118.1 68 20 (by simp)
        have kf118_68_22 : tI t118 68 22 = tI t117 68 22 := fq118.1 68 22 (by simp)
        have eE := eE.fr fq118 (by simp) (by simp) (by simp) (by simp)
        refine w_goto ?_
        have eB : EN t118 (1 - 1) (parens) := by
          first
            | (have h9 : (1 : Int) - 1 = 0 := by omega
               rw [h9]; have h8 : parens = parens + (if (-10 : Int) = -11 then 1 else 0) := by simp
               rw [h8]; exact eE)
            | (have h9 : (1 : Int) - 1 = 0 := by omega
               rw [h9]; have h8 : parens = parens + (if (-11 : Int) = -11 then 1 else 0) := by simp
               rw [h8]; exact eE)
            | (have h9 : (1 : Int) - 1 = 1 := by omega
               rw [h9]; exact eP (by omega))
            | (have h9 : (1 : Int) - 1 = 1 := by omega
               rw [h9]; have h8 : parens = parens - 1 := by omega
               rw [h8]; exact eE)
            | (have h9 : (1 : Int) - 1 = 0 := by omega
               rw [h9]; exact eE)
        exact ih1 _ parens nots 1 (some sg) t118 ok118 fr118 eB (by omega) (by omega) (by omega) (by omega) (by omega) (by omega) (by omega) (by omega) (by omega) (by omega) (by omega) (by omega) (by omega) (by omega) (by omega)
      refine w_step rfl ?_
      refine w_aload rfl ?_
      refine w_callV0I (oj_68 _).choose_spec rfl (c_X9_signHere ok1) ?_
      rintro z119 t119 ⟨rfl, hp119_0, hp119_1⟩
      refine w_istore (lv' := [some (.ref 68), some (.int (jI parens)), some (.int (jI nots)), some (.int (jI wants)), some (.int (jI z119))]) rfl ?_
      refine w_iload rfl ?_
      refine w_ieq (by omega) (fun h120 => ?_) (fun h120 => ?_)
      · skip
        refine w_step rfl ?_
        refine w_push kc_0 ?_
        refine w_retI rfl ?_
        exact ⟨ok1, fr1, (by omega), (by omega), (by first | exact (fun _ => eE.1.1) | (intro h9; exact absurd rfl h9)), (by omega)⟩
      refine w_iload rfl ?_
      refine w_callS1I rfl (c_X9_rank ok1 (by omega) (by omega)) ?_
      rintro z121 t121 ⟨rfl, hp121_0, hp121_1⟩
      refine w_push kc_3 ?_
      refine w_cne (by omega) (fun h122 => ?_) (fun h122 => ?_)
      · skip
        exact key10  _ z119  (by omega) (by omega)  (by omega)
      refine w_aload rfl ?_
      refine w_getR (g_68_23 _) ?_
      refine w_iload rfl ?_
      refine w_iald (i := (parens).toNat) (ai_80 _) (by omega) (by omega) (ae_80 _) ok1 (fun z123 hz123 hl123 hh123 => ?_)
      refine w_ieq (by omega) (fun h124 => ?_) (fun h124 => ?_)
      · skip
        exact key10  _ z119  (by omega) (by omega)  (by omega)
      refine w_goto ?_
      refine w_step rfl ?_
      refine w_push kc_0 ?_
      refine w_retI rfl ?_
      exact ⟨ok1, fr1, (by omega), (by omega), (by first | exact (fun _ => eE.1.1) | (intro h9; exact absurd rfl h9)), (by omega)⟩
    refine w_step rfl ?_
    have e1 : EN t1 1 parens := by
      have h9 : 1 - wants = 1 := by omega
      rw [h9] at i1_0
      exact i1_0
    refine w_aload rfl ?_
    refine w_getI (g_68_12 _) fe_68_12 ok1 (fun z125 hz125 hl125 hh125 => ?_)
    refine w_push kc_3 ?_
    refine w_cne (by omega) (fun h126 => ?_) (fun h126 => ?_)
    · skip
      exact key8  _ o4    (by omega)
    refine w_aload rfl ?_
    refine w_getI (g_68_13 _) fe_68_13 ok1 (fun z127 hz127 hl127 hh127 => ?_)
    refine w_push kc_41 ?_
    refine w_cne (by omega) (fun h128 => ?_) (fun h128 => ?_)
    · skip
      exact key8  _ o4    (by omega)
    refine w_iload rfl ?_
    refine w_ile (by omega) (fun h129 => ?_) (fun h129 => ?_)
    · skip
      exact key8  _ o4    (by omega)
    refine w_aload rfl ?_
    refine w_push kc_0 ?_
    refine w_callV1V (oj_68 _).choose_spec rfl (c_X9_settle ok1 e1.1 (by omega) (by omega) (by omega)) ?_
    rintro t130 ⟨ok130, fq130, hp130_0, hp130_1, hp130_2, hp130_3, hp130_4⟩
    have fr130 := fr1.then fq130 (by simp)
    have kf130_68_9 : tI t130 68 9 = tI t1 68 9 := fq130.1 68 9 (by simp)
    have kf130_68_10 : tI t130 68 10 = tI t1 68 10 := fq130.1 68 10 (by simp)
    have kf130_68_11 : tI t130 68 11 = tI t1 68 11 := fq130.1 68 11 (by simp)
    have kf130_68_12 : tI t130 68 12 = tI t1 68 12 := fq130.1 68 12 (by simp)
    have kf130_68_13 : tI t130 68 13 = tI t1 68 13 := fq130.1 68 13 (by simp)
    have kf130_68_14 : tI t130 68 14 = tI t1 68 14 := fq130.1 68 14 (by simp)
    have kf130_68_20 : tI t130 68 20 = tI t1 68 20 := fq130.1 68 20 (by simp)
    have eE := (show EN t1 1 parens from e1).st fq130 (by simp) hp130_0 hp130_4
    have hT := eE.top (by omega) (ok130.f fe_68_22).1
    have hO := hp130_3
    have f79 : ∀ i, tA t130 79 i = tA t1 79 i := fun i => fq130.2.1 79 (by simp) i
    refine w_aload rfl ?_
    refine w_dupR ?_
    refine w_getI (g_68_22 _) fe_68_22 ok130 (fun z131 hz131 hl131 hh131 => ?_)
    refine w_push kc_1 ?_
    refine w_sub ?_
    refine w_putI (p_68_22 _) fe_68_22 ok130 (by omega) (fun t132 ht132 ok132 => ?_)
    have kf132_68_9 : tI t132 68 9 = tI t130 68 9 := by rw [ht132, tI_uI, if_neg (by decide)]
    have kf132_68_10 : tI t132 68 10 = tI t130 68 10 := by rw [ht132, tI_uI, if_neg (by decide)]
    have kf132_68_11 : tI t132 68 11 = tI t130 68 11 := by rw [ht132, tI_uI, if_neg (by decide)]
    have kf132_68_12 : tI t132 68 12 = tI t130 68 12 := by rw [ht132, tI_uI, if_neg (by decide)]
    have kf132_68_13 : tI t132 68 13 = tI t130 68 13 := by rw [ht132, tI_uI, if_neg (by decide)]
    have kf132_68_14 : tI t132 68 14 = tI t130 68 14 := by rw [ht132, tI_uI, if_neg (by decide)]
    have kf132_68_19 : tI t132 68 19 = tI t130 68 19 := by rw [ht132, tI_uI, if_neg (by decide)]
    have kf132_68_20 : tI t132 68 20 = tI t130 68 20 := by rw [ht132, tI_uI, if_neg (by decide)]
    have kf132_68_22 : tI t132 68 22 = (z131 - 1) := by rw [ht132, tI_uI, if_pos ⟨rfl, rfl⟩]
    have fr132 := fr130.uI ht132 (by simp)
    have p2 := ht132
    have eE : EN t132 1 (parens - 1) := eE.drp (by omega) (by rw [f79]; omega) (by omega) (by omega) (fun i => by rw [p2, tA_uI]) (fun i => by rw [p2, tA_uI])
    refine w_iinc (lv' := [some (.ref 68), some (.int (jI (parens + (-1)))), some (.int (jI nots)), some (.int (jI wants)), dv o4]) kc_m1 rfl rfl ?_
    refine w_aload rfl ?_
    refine w_push kc_6 ?_
    refine w_callV1V (oj_68 _).choose_spec rfl (c_X9_settle ok132 eE.1 (by omega) (by omega) (by omega)) ?_
    rintro t133 ⟨ok133, fq133, hp133_0, hp133_1, hp133_2, hp133_3, hp133_4⟩
    have fr133 := fr132.then fq133 (by simp)
    have kf133_68_9 : tI t133 68 9 = tI t132 68 9 := fq133.1 68 9 (by simp)
    have kf133_68_10 : tI t133 68 10 = tI t132 68 10 := fq133.1 68 10 (by simp)
    have kf133_68_11 : tI t133 68 11 = tI t132 68 11 := fq133.1 68 11 (by simp)
    have kf133_68_12 : tI t133 68 12 = tI t132 68 12 := fq133.1 68 12 (by simp)
    have kf133_68_13 : tI t133 68 13 = tI t132 68 13 := fq133.1 68 13 (by simp)
    have kf133_68_14 : tI t133 68 14 = tI t132 68 14 := fq133.1 68 14 (by simp)
    have kf133_68_20 : tI t133 68 20 = tI t132 68 20 := fq133.1 68 20 (by simp)
    have eE := eE.st fq133 (by simp) hp133_0 hp133_4
    refine w_aload rfl ?_
    refine w_callV0I (oj_68 _).choose_spec rfl (c_X9_notsOpen ok133) ?_
    rintro z134 t134 ⟨rfl, hp134_0, hp134_1⟩
    refine w_istore (lv' := [some (.ref 68), some (.int (jI (parens + (-1)))), some (.int (jI z134)), some (.int (jI wants)), dv o4]) rfl ?_
    refine w_aload rfl ?_
    refine w_callV0V (oj_68 _).choose_spec rfl (c_X9_go ok133 (by omega)) ?_
    rintro t135 ⟨ok135, fq135, hp135_0, hp135_1, hp135_2, hp135_3, hp135_4⟩
    have fr135 := fr133.then fq135 (by simp)
    have kf135_68_9 : tI t135 68 9 = tI t133 68 9 := fq135.1 68 9 (by simp)
    have kf135_68_19 : tI t135 68 19 = tI t133 68 19 := fq135.1 68 19 (by simp)
    have kf135_68_20 : tI t135 68 20 = tI t133 68 20 := fq135.1 68 20 (by simp)
    have kf135_68_22 : tI t135 68 22 = tI t133 68 22 := fq135.1 68 22 (by simp)
    have eE := eE.fr fq135 (by simp) (by simp) (by simp) (by simp)
    refine w_goto ?_
    have eB : EN t135 (1 - wants) ((parens + (-1))) := by
      first
        | (have h9 : (1 : Int) - wants = 0 := by omega
           rw [h9]; have h8 : (parens + (-1)) = parens + (if (-10 : Int) = -11 then 1 else 0) := by simp
           rw [h8]; exact eE)
        | (have h9 : (1 : Int) - wants = 0 := by omega
           rw [h9]; have h8 : (parens + (-1)) = parens + (if (-11 : Int) = -11 then 1 else 0) := by simp
           rw [h8]; exact eE)
        | (have h9 : (1 : Int) - wants = 1 := by omega
           rw [h9]; exact eP (by omega))
        | (have h9 : (1 : Int) - wants = 1 := by omega
           rw [h9]; have h8 : (parens + (-1)) = parens - 1 := by omega
           rw [h8]; exact eE)
        | (have h9 : (1 : Int) - wants = 0 := by omega
           rw [h9]; exact eE)
    exact ih1 _ (parens + (-1)) z134 wants o4 t135 ok135 fr135 eB (by omega) (by omega) (by omega) (by omega) (by omega) (by omega) (by omega) (by omega) (by omega) (by omega) (by omega) (by omega) (by omega) (by omega) (by omega)
set_option maxRecDepth 100000 in
set_option maxHeartbeats 4000000 in
theorem c_X9_takesE {d : Nat} {t : TS}  (ok : OK t) (q0 : 3 ≤ tI t 68 11) (q1 : tI t 68 11 ≤ tI t 68 10) (q2 : tI t 68 10 ≤ tI t 68 9) (q3 : tI t 68 12 = 0 → tI t 68 11 = tI t 68 9) (q4 : ¬ tI t 68 12 = 0 → tI t 68 11 < tI t 68 10) : CI (EX FU (d + 4)) 198 [.ref 68] (mk t) (fun z t' => OK t' ∧ Fr [(68, 10), (68, 11), (68, 12), (68, 13), (68, 14), (68, 19), (68, 20), (68, 22), (78, 100), (79, 100), (80, 100)] t t' ∧ (0 ≤ z) ∧ (z ≤ 1) ∧ (¬ z = 0 → wfC (tA t' 78) (tI t' 68 19).toNat) ∧ (tI t' 68 19 ≤ 95 ∨ z = 0)) := by
  refine CI_ent (d := d + 3) (Bk := bX9_takesE) (nL := 5) rfl rfl rfl (Nat.le_of_ble_eq_true rfl) ?_
  show Rn _ 1000000 0 [some (.ref 68), none, none, none, none] [] _ _
  have fr : Fr [(68, 10), (68, 11), (68, 12), (68, 13), (68, 14), (68, 19), (68, 20), (68, 22), (78, 100), (79, 100), (80, 100)] t t := Fr.rf _ _
  have r9 := ok.f fe_68_9
  refine w_step rfl ?_
  refine w_push kc_0 ?_
  refine w_istore (lv' := [some (.ref 68), some (.int (jI 0)), none, none, none]) rfl ?_
  refine w_push kc_0 ?_
  refine w_istore (lv' := [some (.ref 68), some (.int (jI 0)), some (.int (jI 0)), none, none]) rfl ?_
  refine w_push kc_1 ?_
  refine w_istore (lv' := [some (.ref 68), some (.int (jI 0)), some (.int (jI 0)), some (.int (jI 1)), none]) rfl ?_
  refine w_aload rfl ?_
  refine w_push kc_0 ?_
  refine w_putI (p_68_19 _) fe_68_19 ok (by omega) (fun t136 ht136 ok136 => ?_)
  have kf136_68_9 : tI t136 68 9 = tI t 68 9 := by rw [ht136, tI_uI, if_neg (by decide)]
  have kf136_68_10 : tI t136 68 10 = tI t 68 10 := by rw [ht136, tI_uI, if_neg (by decide)]
  have kf136_68_11 : tI t136 68 11 = tI t 68 11 := by rw [ht136, tI_uI, if_neg (by decide)]
  have kf136_68_12 : tI t136 68 12 = tI t 68 12 := by rw [ht136, tI_uI, if_neg (by decide)]
  have kf136_68_13 : tI t136 68 13 = tI t 68 13 := by rw [ht136, tI_uI, if_neg (by decide)]
  have kf136_68_14 : tI t136 68 14 = tI t 68 14 := by rw [ht136, tI_uI, if_neg (by decide)]
  have kf136_68_19 : tI t136 68 19 = 0 := by rw [ht136, tI_uI, if_pos ⟨rfl, rfl⟩]
  have kf136_68_20 : tI t136 68 20 = tI t 68 20 := by rw [ht136, tI_uI, if_neg (by decide)]
  have kf136_68_22 : tI t136 68 22 = tI t 68 22 := by rw [ht136, tI_uI, if_neg (by decide)]
  have fr136 := fr.uI ht136 (by simp)
  have p1 := ht136
  refine w_aload rfl ?_
  refine w_push kc_0 ?_
  refine w_putI (p_68_20 _) fe_68_20 ok136 (by omega) (fun t137 ht137 ok137 => ?_)
  have kf137_68_9 : tI t137 68 9 = tI t136 68 9 := by rw [ht137, tI_uI, if_neg (by decide)]
  have kf137_68_10 : tI t137 68 10 = tI t136 68 10 := by rw [ht137, tI_uI, if_neg (by decide)]
  have kf137_68_11 : tI t137 68 11 = tI t136 68 11 := by rw [ht137, tI_uI, if_neg (by decide)]
  have kf137_68_12 : tI t137 68 12 = tI t136 68 12 := by rw [ht137, tI_uI, if_neg (by decide)]
  have kf137_68_13 : tI t137 68 13 = tI t136 68 13 := by rw [ht137, tI_uI, if_neg (by decide)]
  have kf137_68_14 : tI t137 68 14 = tI t136 68 14 := by rw [ht137, tI_uI, if_neg (by decide)]
  have kf137_68_19 : tI t137 68 19 = tI t136 68 19 := by rw [ht137, tI_uI, if_neg (by decide)]
  have kf137_68_20 : tI t137 68 20 = 0 := by rw [ht137, tI_uI, if_pos ⟨rfl, rfl⟩]
  have kf137_68_22 : tI t137 68 22 = tI t136 68 22 := by rw [ht137, tI_uI, if_neg (by decide)]
  have fr137 := fr136.uI ht137 (by simp)
  have p2 := ht137
  refine w_aload rfl ?_
  refine w_push kc_0 ?_
  refine w_putI (p_68_22 _) fe_68_22 ok137 (by omega) (fun t138 ht138 ok138 => ?_)
  have kf138_68_9 : tI t138 68 9 = tI t137 68 9 := by rw [ht138, tI_uI, if_neg (by decide)]
  have kf138_68_10 : tI t138 68 10 = tI t137 68 10 := by rw [ht138, tI_uI, if_neg (by decide)]
  have kf138_68_11 : tI t138 68 11 = tI t137 68 11 := by rw [ht138, tI_uI, if_neg (by decide)]
  have kf138_68_12 : tI t138 68 12 = tI t137 68 12 := by rw [ht138, tI_uI, if_neg (by decide)]
  have kf138_68_13 : tI t138 68 13 = tI t137 68 13 := by rw [ht138, tI_uI, if_neg (by decide)]
  have kf138_68_14 : tI t138 68 14 = tI t137 68 14 := by rw [ht138, tI_uI, if_neg (by decide)]
  have kf138_68_19 : tI t138 68 19 = tI t137 68 19 := by rw [ht138, tI_uI, if_neg (by decide)]
  have kf138_68_20 : tI t138 68 20 = tI t137 68 20 := by rw [ht138, tI_uI, if_neg (by decide)]
  have kf138_68_22 : tI t138 68 22 = 0 := by rw [ht138, tI_uI, if_pos ⟨rfl, rfl⟩]
  have fr138 := fr137.uI ht138 (by simp)
  have p3 := ht138
  refine w_aload rfl ?_
  refine w_getR (g_68_23 _) ?_
  refine w_push kc_0 ?_
  refine w_push kc_0 ?_
  refine w_iast (i := 0) (ai_80 _) (nar_bool (by omega)) (by omega) (by omega) (ae_80 _) ok138 (by omega) (fun t139 ht139 ok139 => ?_)
  have kf139_68_9 : tI t139 68 9 = tI t138 68 9 := by rw [ht139]; rfl
  have kf139_68_10 : tI t139 68 10 = tI t138 68 10 := by rw [ht139]; rfl
  have kf139_68_11 : tI t139 68 11 = tI t138 68 11 := by rw [ht139]; rfl
  have kf139_68_12 : tI t139 68 12 = tI t138 68 12 := by rw [ht139]; rfl
  have kf139_68_13 : tI t139 68 13 = tI t138 68 13 := by rw [ht139]; rfl
  have kf139_68_14 : tI t139 68 14 = tI t138 68 14 := by rw [ht139]; rfl
  have kf139_68_19 : tI t139 68 19 = tI t138 68 19 := by rw [ht139]; rfl
  have kf139_68_20 : tI t139 68 20 = tI t138 68 20 := by rw [ht139]; rfl
  have kf139_68_22 : tI t139 68 22 = tI t138 68 22 := by rw [ht139]; rfl
  have fr139 := fr138.uA ht139 (by simp)
  have p4 := ht139
  have eS : EN t139 0 0 := by
    unfold EN EI
    rw [show tI t139 68 19 = 0 by omega, show tI t139 68 22 = 0 by omega]
    exact ⟨⟨fun j hj => absurd hj (Nat.not_lt_zero j), rfl, fun j hj => absurd hj (Nat.not_lt_zero j)⟩, rfl⟩
  refine w_goto ?_
  exact c_X9_takesE_k1 (d := d) ok q0 q1 q2 q3 q4 97 _ 0 0 1 none t139 ok139 fr139 eS (by omega) (by omega) (by omega) (by omega) (by omega) (by omega) (by omega) (by omega) (by omega) (by omega) (by omega) (by omega) (by omega) (by omega) (by omega)
