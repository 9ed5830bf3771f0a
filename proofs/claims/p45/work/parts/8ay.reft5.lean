set_option maxRecDepth 100000 in
set_option maxHeartbeats 4000000 in
theorem e_X9_takesE_k1 {d : Nat} {t : TS} {c : PCu} (ok : OK t) (q0 : 3 ≤ tI t 68 11) (q1 : tI t 68 11 ≤ tI t 68 10) (q2 : tI t 68 10 ≤ tI t 68 9) (q3 : tI t 68 12 = 0 → tI t 68 11 = tI t 68 9) (q4 : ¬ tI t 68 12 = 0 → tI t 68 11 < tI t 68 10) (q5 : CRx t c) (q6 : WC (tI t 68 9) c) : ∀ (n1 M1 : Nat) (parens : Int) (nots : Int) (wants : Int) (o4 : Option Int) (t1 : TS), OK t1 → Fr [(68, 10), (68, 11), (68, 12), (68, 13), (68, 14), (68, 19), (68, 20), (68, 22), (78, 100), (79, 100), (80, 100)] t t1 → (EN t1 (1 - wants) parens) → (0 ≤ parens) → (parens ≤ 8) → (-2147483648 ≤ nots) → (nots ≤ 2147483647) → (0 ≤ wants) → (wants ≤ 1) → (tI t1 68 9 = tI t 68 9) → (tI t1 68 19 + tI t1 68 22 + 3 ≤ tI t1 68 11) → (tI t1 68 20 + 3 ≤ tI t1 68 11) → (tI t1 68 11 ≤ tI t1 68 10) → (tI t1 68 10 ≤ tI t 68 9) → (tI t1 68 12 = 0 → tI t1 68 11 = tI t 68 9) → (¬ tI t1 68 12 = 0 → tI t1 68 11 < tI t1 68 10) → (TEp t c t1 parens nots wants) → 96 - tI t1 68 11 < (n1 : Int) → 100 * n1 + (1000) ≤ M1 → Rn (bX9_takesE (EX FU (d + 3))) M1 1 [some (.ref 68), some (.int (jI parens)), some (.int (jI nots)), some (.int (jI wants)), dv o4] [] (mk t1) (PI (fun z t' => OK t' ∧ Fr [(68, 10), (68, 11), (68, 12), (68, 13), (68, 14), (68, 19), (68, 20), (68, 22), (78, 100), (79, 100), (80, 100)] t t' ∧ (0 ≤ z) ∧ (z ≤ 1) ∧ (¬ z = 0 → wfC (tA t' 78) (tI t' 68 19).toNat) ∧ (tI t' 68 19 ≤ 95 ∨ z = 0) ∧ (TFp t c z t'))) := by
  have r9 := ok.f fe_68_9
  intro n1
  induction n1 with
  | zero => intro M1 parens nots wants o4 t1 ok1 fr1 i1_0 i1_1 i1_2 i1_3 i1_4 i1_5 i1_6 i1_7 i1_8 i1_9 i1_10 i1_11 i1_12 i1_13 i1_14 v1 f1; exfalso; omega
  | succ n1 ih1 =>
    intro M1 parens nots wants o4 t1 ok1 fr1 i1_0 i1_1 i1_2 i1_3 i1_4 i1_5 i1_6 i1_7 i1_8 i1_9 i1_10 i1_11 i1_12 i1_13 i1_14 v1 f1
    obtain ⟨M1, rfl⟩ : ∃ m, M1 = m + 100 := ⟨M1 - 100, by omega⟩
    have r19 := ok1.f fe_68_19
    have r22 := ok1.f fe_68_22
    have r20 := ok1.f fe_68_20
    obtain ⟨T0, cc, hT0, cr, wc, rc⟩ := i1_14
    have gr : GR t t1 := GR.fr fr1 (by simp) (by simp) (by simp)
    have tk := cr.1.2.2
    have tc := cr.1.1
    refine w_step rfl ?_
    refine w_iload rfl ?_
    refine w_ine (by omega) (fun h2 => ?_) (fun h2 => ?_)
    · skip
      have key3 : ∀ (M3 : Nat) (o4c : Option Int), (¬ wants = 0) → (NotP (tI t1 68 12 = 3 ∧ tI t1 68 13 = 33 ∧ nots < 8)) → 100 * n1 + 1080 ≤ M3 → Rn (bX9_takesE (EX FU (d + 3))) M3 3 [some (.ref 68), some (.int (jI parens)), some (.int (jI nots)), some (.int (jI wants)), dv o4c] [] (mk t1) (PI (fun z t' => OK t' ∧ Fr [(68, 10), (68, 11), (68, 12), (68, 13), (68, 14), (68, 19), (68, 20), (68, 22), (78, 100), (79, 100), (80, 100)] t t' ∧ (0 ≤ z) ∧ (z ≤ 1) ∧ (¬ z = 0 → wfC (tA t' 78) (tI t' 68 19).toNat) ∧ (tI t' 68 19 ≤ 95 ∨ z = 0) ∧ (TFp t c z t'))) := by
        intro M3 o4c i3_0 i3_1 f3
        obtain ⟨M3, rfl⟩ : ∃ m, M3 = m + 10 := ⟨M3 - 10, by omega⟩
        have e0 : EN t1 0 parens := by
          have h9 : 1 - wants = 0 := by omega
          rw [h9] at i1_0
          exact i1_0
        have key4 : ∀ (M4 : Nat) (o4d : Option Int), (NotP (tI t1 68 12 = 3 ∧ tI t1 68 13 = 40 ∧ parens < 8)) → 100 * n1 + 1060 ≤ M4 → Rn (bX9_takesE (EX FU (d + 3))) M4 4 [some (.ref 68), some (.int (jI parens)), some (.int (jI nots)), some (.int (jI wants)), dv o4d] [] (mk t1) (PI (fun z t' => OK t' ∧ Fr [(68, 10), (68, 11), (68, 12), (68, 13), (68, 14), (68, 19), (68, 20), (68, 22), (78, 100), (79, 100), (80, 100)] t t' ∧ (0 ≤ z) ∧ (z ≤ 1) ∧ (¬ z = 0 → wfC (tA t' 78) (tI t' 68 19).toNat) ∧ (tI t' 68 19 ≤ 95 ∨ z = 0) ∧ (TFp t c z t'))) := by
          intro M4 o4d i4_0 f4
          obtain ⟨M4, rfl⟩ : ∃ m, M4 = m + 10 := ⟨M4 - 10, by omega⟩
          refine w_step rfl ?_
          refine w_aload rfl ?_
          refine w_callV0I (oj_68 _).choose_spec rfl (e_X9_takesPart ok1 e0 (by omega) (by omega) (by omega) cr (by rw [gr.2.1]; exact wc)) ?_
          rintro z3 t3 ⟨ok3, fq3, hp3_0, hp3_1, hp3_2, hp3_3, hp3_4, hp3_5, hp3_6, hp3_7, hp3_8, hp3_9, hp3_10, hp3_11⟩
          have fr3 := fr1.then fq3 (by simp)
          have kf3_68_9 : tI t3 68 9 = tI t1 68 9 := fq3.1 68 9 (by simp)
          have eP := hp3_2
          have tP := hp3_11
          have fT : tA t3 80 = tA t1 80 := funext (fq3.2.1 80 (by simp))
          have eY : ImpP (¬ z3 = 0) (∀ k9 : Int, k9 = noS (stR t3) → TEp t c t3 parens k9 0) := by
            unfold ImpP
            intro hz9 k9 h9
            obtain ⟨t1, t2, t3, t4, t5⟩ := tP.resolve_right (fun h => hz9 h.1)
            rw [gr.1, gr.2.2] at t4
            rw [gr.1, gr.2.1] at t3
            refine te_s2 hT0 wc rc (sy_opd (by omega) (fun h9 => i3_1 ⟨((si_u gr cr wc (x := 33) (by decide)).mp h9.1).1, ((si_u gr cr wc (x := 33) (by decide)).mp h9.1).2, h9.2⟩) (fun h9 => i4_0 ⟨((si_u gr cr wc (x := 40) (by decide)).mp h9.1).1, ((si_u gr cr wc (x := 40) (by decide)).mp h9.1).2, h9.2⟩) (pt_u gr t2)) rfl rfl ?_ t3 (by rw [← t4]) (by rw [← t4]) t5 fT
            rw [h9, ← t4]
          have eZ5 : ImpP (z3 = 0) (TFp t c 0 t3) := by
            unfold ImpP
            intro hz9
            obtain ⟨t1, t2, t3⟩ := tP.resolve_left (fun h => by have h9 := h.1; omega)
            exact tf_0 hT0 rc (sy_bad (by omega) (fun h9 => i3_1 ⟨((si_u gr cr wc (x := 33) (by decide)).mp h9.1).1, ((si_u gr cr wc (x := 33) (by decide)).mp h9.1).2, h9.2⟩) (fun h9 => i4_0 ⟨((si_u gr cr wc (x := 40) (by decide)).mp h9.1).1, ((si_u gr cr wc (x := 40) (by decide)).mp h9.1).2, h9.2⟩) (pt_v gr t2)) (by rw [t3]; exact tc.symm) rfl
          refine w_ieq (by omega) (fun h4 => ?_) (fun h4 => ?_)
          · skip
            refine w_step rfl ?_
            refine w_push kc_0 ?_
            refine w_retI rfl ?_
            exact ⟨ok3, fr3, (by omega), (by omega), (by first | exact (fun _ => eE.1.1) | (intro h9; exact absurd rfl h9)), (by omega), (by first | exact eZ5.go (by omega) | exact eZ8.go (by omega) | exact eZ13.go (by omega) | exact eZ14.go (by omega) | exact eZ15.go (by omega) | omega)⟩
          refine w_push kc_0 ?_
          refine w_istore (lv' := [some (.ref 68), some (.int (jI parens)), some (.int (jI nots)), some (.int (jI 0)), dv o4d]) rfl ?_
          refine w_goto ?_
          refine w_step rfl ?_
          refine w_aload rfl ?_
          refine w_callV0I (oj_68 _).choose_spec rfl (e_X9_notsOpen ok3) ?_
          rintro z5 t5 ⟨rfl, hp5_0, hp5_1, hp5_2⟩
          have hno := hp5_2
          refine w_istore (lv' := [some (.ref 68), some (.int (jI parens)), some (.int (jI z5)), some (.int (jI 0)), dv o4d]) rfl ?_
          refine w_goto ?_
          have eB : EN t3 (1 - 0) (parens) := by
            first
              | (have h9 : (1 : Int) - 0 = 0 := by omega
                 rw [h9]; have h8 : parens = parens + (if (-10 : Int) = -11 then 1 else 0) := by simp
                 rw [h8]; exact eE)
              | (have h9 : (1 : Int) - 0 = 0 := by omega
                 rw [h9]; have h8 : parens = parens + (if (-11 : Int) = -11 then 1 else 0) := by simp
                 rw [h8]; exact eE)
              | (have h9 : (1 : Int) - 0 = 1 := by omega
                 rw [h9]; exact eP (by omega))
              | (have h9 : (1 : Int) - 0 = 1 := by omega
                 rw [h9]; have h8 : parens = parens - 1 := by omega
                 rw [h8]; exact eE)
              | (have h9 : (1 : Int) - 0 = 0 := by omega
                 rw [h9]; exact eE)
          have eT : TEp t c t3 (parens) (z5) (0) := by
            first
              | exact eY
              | exact eY _ hno
              | exact eY.go (by omega) _ hno
              | omega
          exact ih1 _ parens z5 0 o4d t3 ok3 fr3 eB (by omega) (by omega) (by omega) (by omega) (by omega) (by omega) (by omega) (by omega) (by omega) (by omega) (by omega) (by omega) (by omega) eT (by omega) (by omega)
        refine w_step rfl ?_
        refine w_aload rfl ?_
        refine w_getI (g_68_12 _) fe_68_12 ok1 (fun z6 hz6 hl6 hh6 => ?_)
        refine w_push kc_3 ?_
        refine w_cne (by omega) (fun h7 => ?_) (fun h7 => ?_)
        · skip
          exact key4  _ o4c  (by unfold NotP; omega)  (by omega)
        refine w_aload rfl ?_
        refine w_getI (g_68_13 _) fe_68_13 ok1 (fun z8 hz8 hl8 hh8 => ?_)
        refine w_push kc_40 ?_
        refine w_cne (by omega) (fun h9 => ?_) (fun h9 => ?_)
        · skip
          exact key4  _ o4c  (by unfold NotP; omega)  (by omega)
        refine w_iload rfl ?_
        refine w_push kc_8 ?_
        refine w_cge (by omega) (fun h10 => ?_) (fun h10 => ?_)
        · skip
          exact key4  _ o4c  (by unfold NotP; omega)  (by omega)
        refine w_aload rfl ?_
        refine w_getR (g_68_21 _) ?_
        refine w_aload rfl ?_
        refine w_getI (g_68_22 _) fe_68_22 ok1 (fun z11 hz11 hl11 hh11 => ?_)
        refine w_push kc_m11 ?_
        refine w_iast (i := (z11).toNat) (ai_79 _) rfl (by omega) (by omega) (ae_79 _) ok1 (by omega) (fun t12 ht12 ok12 => ?_)
        have kf12_68_9 : tI t12 68 9 = tI t1 68 9 := by rw [ht12]; rfl
        have kf12_68_10 : tI t12 68 10 = tI t1 68 10 := by rw [ht12]; rfl
        have kf12_68_11 : tI t12 68 11 = tI t1 68 11 := by rw [ht12]; rfl
        have kf12_68_12 : tI t12 68 12 = tI t1 68 12 := by rw [ht12]; rfl
        have kf12_68_13 : tI t12 68 13 = tI t1 68 13 := by rw [ht12]; rfl
        have kf12_68_14 : tI t12 68 14 = tI t1 68 14 := by rw [ht12]; rfl
        have kf12_68_19 : tI t12 68 19 = tI t1 68 19 := by rw [ht12]; rfl
        have kf12_68_20 : tI t12 68 20 = tI t1 68 20 := by rw [ht12]; rfl
        have kf12_68_22 : tI t12 68 22 = tI t1 68 22 := by rw [ht12]; rfl
        have fr12 := fr1.uA ht12 (by simp)
        have p1 := ht12
        have c1 := cr.uA ht12 (by decide)
        refine w_aload rfl ?_
        refine w_dupR ?_
        refine w_getI (g_68_22 _) fe_68_22 ok12 (fun z13 hz13 hl13 hh13 => ?_)
        refine w_push kc_1 ?_
        refine w_add ?_
        refine w_putI (p_68_22 _) fe_68_22 ok12 (by omega) (fun t14 ht14 ok14 => ?_)
        have kf14_68_9 : tI t14 68 9 = tI t12 68 9 := by rw [ht14, tI_uI, if_neg (by decide)]
        have kf14_68_10 : tI t14 68 10 = tI t12 68 10 := by rw [ht14, tI_uI, if_neg (by decide)]
        have kf14_68_11 : tI t14 68 11 = tI t12 68 11 := by rw [ht14, tI_uI, if_neg (by decide)]
        have kf14_68_12 : tI t14 68 12 = tI t12 68 12 := by rw [ht14, tI_uI, if_neg (by decide)]
        have kf14_68_13 : tI t14 68 13 = tI t12 68 13 := by rw [ht14, tI_uI, if_neg (by decide)]
        have kf14_68_14 : tI t14 68 14 = tI t12 68 14 := by rw [ht14, tI_uI, if_neg (by decide)]
        have kf14_68_19 : tI t14 68 19 = tI t12 68 19 := by rw [ht14, tI_uI, if_neg (by decide)]
        have kf14_68_20 : tI t14 68 20 = tI t12 68 20 := by rw [ht14, tI_uI, if_neg (by decide)]
        have kf14_68_22 : tI t14 68 22 = (z13 + 1) := by rw [ht14, tI_uI, if_pos ⟨rfl, rfl⟩]
        have fr14 := fr12.uI ht14 (by simp)
        have p2 := ht14
        have eE : EN t14 0 (parens + (if (-11 : Int) = -11 then 1 else 0)) := EN.psh (v := -11) e0 (by omega) (by omega) (by omega) (by omega) (fun i => by rw [p2, tA_uI, p1, tA_uA, if_neg (by omega)]) (fun i => by
          rw [p2, tA_uI, p1, tA_uA]
          by_cases h9 : i = (tI t1 68 22).toNat
          · rw [if_pos (by omega), if_pos h9]
          · rw [if_neg (by omega), if_neg h9])
        have c2 := c1.uI ht14 (by omega)
        have sS : stR t14 = -11 :: stR t1 := st_push (by omega) (by omega) (fun i => by
          rw [p2, tA_uI, p1, tA_uA]
          by_cases h9 : i = (tI t1 68 22).toNat
          · rw [if_pos (by omega), if_pos h9]
          · rw [if_neg (by omega), if_neg h9])
        have sO : coR t14 = coR t1 := co_same (by omega) (fun i => by rw [p2, tA_uI, p1, tA_uA, if_neg (by omega)])
        have sT : tA t14 80 = tA t1 80 := by
          funext i
          rw [p2, tA_uI, p1, tA_uA, if_neg (by omega)]
        refine w_iinc (lv' := [some (.ref 68), some (.int (jI (parens + 1))), some (.int (jI nots)), some (.int (jI wants)), dv o4c]) kc_1 rfl rfl ?_
        refine w_aload rfl ?_
        refine w_getR (g_68_23 _) ?_
        refine w_iload rfl ?_
        refine w_push kc_0 ?_
        refine w_iast (i := ((parens + 1)).toNat) (ai_80 _) (nar_bool (by omega)) (by omega) (by omega) (ae_80 _) ok14 (by omega) (fun t15 ht15 ok15 => ?_)
        have kf15_68_9 : tI t15 68 9 = tI t14 68 9 := by rw [ht15]; rfl
        have kf15_68_10 : tI t15 68 10 = tI t14 68 10 := by rw [ht15]; rfl
        have kf15_68_11 : tI t15 68 11 = tI t14 68 11 := by rw [ht15]; rfl
        have kf15_68_12 : tI t15 68 12 = tI t14 68 12 := by rw [ht15]; rfl
        have kf15_68_13 : tI t15 68 13 = tI t14 68 13 := by rw [ht15]; rfl
        have kf15_68_14 : tI t15 68 14 = tI t14 68 14 := by rw [ht15]; rfl
        have kf15_68_19 : tI t15 68 19 = tI t14 68 19 := by rw [ht15]; rfl
        have kf15_68_20 : tI t15 68 20 = tI t14 68 20 := by rw [ht15]; rfl
        have kf15_68_22 : tI t15 68 22 = tI t14 68 22 := by rw [ht15]; rfl
        have fr15 := fr14.uA ht15 (by simp)
        have eE := eE.uAo ht15 (by decide) (by decide)
        have c2 := c2.uA ht15 (by decide)
        have sS := (st_same (u := t14) (v := t15) (by rw [ht15]; rfl) (fun i => by rw [ht15, tA_uA, if_neg (by omega)])).trans sS
        have sO := (co_same (u := t14) (v := t15) (by rw [ht15]; rfl) (fun i => by rw [ht15, tA_uA, if_neg (by omega)])).trans sO
        have sT : tA t15 80 = upF (tA t1 80) (parens + 1).toNat 0 := by
          funext i
          rw [ht15, tA_uA, sT]
          show _ = (if i = (parens + 1).toNat then _ else _)
          by_cases h9 : i = (parens + 1).toNat
          · rw [if_pos ⟨rfl, h9⟩, if_pos h9]
          · rw [if_neg (fun h8 => h9 h8.2), if_neg h9]
        refine w_aload rfl ?_
        refine w_callV0V (oj_68 _).choose_spec rfl (e_X9_go ok15 (by omega) (c2.go wc (tk_ne wc (by omega)))) ?_
        rintro t16 ⟨ok16, fq16, hp16_0, hp16_1, hp16_2, hp16_3, hp16_4, hp16_5⟩
        have fr16 := fr15.then fq16 (by simp)
        have kf16_68_9 : tI t16 68 9 = tI t15 68 9 := fq16.1 68 9 (by simp)
        have kf16_68_19 : tI t16 68 19 = tI t15 68 19 := fq16.1 68 19 (by simp)
        have kf16_68_20 : tI t16 68 20 = tI t15 68 20 := fq16.1 68 20 (by simp)
        have kf16_68_22 : tI t16 68 22 = tI t15 68 22 := fq16.1 68 22 (by simp)
        have eE := eE.fr fq16 (by simp) (by simp) (by simp) (by simp)
        have cG : CRx t16 (stC (tA t 75) (tI t 68 9) cc) := by
          have h9 := hp16_5
          rw [show tA t15 75 = tA t 75 from funext (fr15.2.1 75 (by simp)), show tI t15 68 9 = tI t 68 9 by omega] at h9
          exact h9
        have sS := (st_same (u := t15) (v := t16) (fq16.1 68 22 (by simp)) (fq16.2.1 79 (by simp))).trans sS
        have sO := (co_same (u := t15) (v := t16) (fq16.1 68 19 (by simp)) (fq16.2.1 78 (by simp))).trans sO
        have sT := (show tA t16 80 = tA t15 80 from funext (fq16.2.1 80 (by simp))).trans sT
        have eY : ∀ k9 : Int, k9 = noS (stR t16) → TEp t c t16 (parens + 1) k9 wants := fun k9 h9 => te_s2 hT0 wc rc (sy_par (by omega) (fun h9 => i3_1 ⟨((si_u gr cr wc (x := 33) (by decide)).mp h9.1).1, ((si_u gr cr wc (x := 33) (by decide)).mp h9.1).2, h9.2⟩) ⟨(si_u gr cr wc (x := 40) (by decide)).mpr (by omega), by omega⟩) (by omega) rfl (by rw [h9, sS]) cG sS sO (by omega) sT
        refine w_goto ?_
        refine w_step rfl ?_
        refine w_aload rfl ?_
        refine w_callV0I (oj_68 _).choose_spec rfl (e_X9_notsOpen ok16) ?_
        rintro z17 t17 ⟨rfl, hp17_0, hp17_1, hp17_2⟩
        have hno := hp17_2
        refine w_istore (lv' := [some (.ref 68), some (.int (jI (parens + 1))), some (.int (jI z17)), some (.int (jI wants)), dv o4c]) rfl ?_
        refine w_goto ?_
        have eB : EN t16 (1 - wants) ((parens + 1)) := by
          first
            | (have h9 : (1 : Int) - wants = 0 := by omega
               rw [h9]; have h8 : (parens + 1) = parens + (if (-10 : Int) = -11 then 1 else 0) := by simp
               rw [h8]; exact eE)
            | (have h9 : (1 : Int) - wants = 0 := by omega
               rw [h9]; have h8 : (parens + 1) = parens + (if (-11 : Int) = -11 then 1 else 0) := by simp
               rw [h8]; exact eE)
            | (have h9 : (1 : Int) - wants = 1 := by omega
               rw [h9]; exact eP (by omega))
            | (have h9 : (1 : Int) - wants = 1 := by omega
               rw [h9]; have h8 : (parens + 1) = parens - 1 := by omega
               rw [h8]; exact eE)
            | (have h9 : (1 : Int) - wants = 0 := by omega
               rw [h9]; exact eE)
        have eT : TEp t c t16 ((parens + 1)) (z17) (wants) := by
          first
            | exact eY
            | exact eY _ hno
            | exact eY.go (by omega) _ hno
            | omega
        exact ih1 _ (parens + 1) z17 wants o4c t16 ok16 fr16 eB (by omega) (by omega) (by omega) (by omega) (by omega) (by omega) (by omega) (by omega) (by omega) (by omega) (by omega) (by omega) (by omega) eT (by omega) (by omega)
      refine w_step rfl ?_
      refine w_iload rfl ?_
      refine w_ieq (by omega) (fun h => absurd h (by omega)) (fun _ => ?_)
      have e0 : EN t1 0 parens := by
        have h9 : 1 - wants = 0 := by omega
        rw [h9] at i1_0
        exact i1_0
      refine w_aload rfl ?_
      refine w_getI (g_68_12 _) fe_68_12 ok1 (fun z18 hz18 hl18 hh18 => ?_)
      refine w_push kc_3 ?_
      refine w_cne (by omega) (fun h19 => ?_) (fun h19 => ?_)
      · skip
        exact key3  _ o4  (by omega) (by unfold NotP; omega)  (by omega)
      refine w_aload rfl ?_
      refine w_getI (g_68_13 _) fe_68_13 ok1 (fun z20 hz20 hl20 hh20 => ?_)
      refine w_push kc_33 ?_
      refine w_cne (by omega) (fun h21 => ?_) (fun h21 => ?_)
      · skip
        exact key3  _ o4  (by omega) (by unfold NotP; omega)  (by omega)
      refine w_iload rfl ?_
      refine w_push kc_8 ?_
      refine w_cge (by omega) (fun h22 => ?_) (fun h22 => ?_)
      · skip
        exact key3  _ o4  (by omega) (by unfold NotP; omega)  (by omega)
      refine w_aload rfl ?_
      refine w_getR (g_68_21 _) ?_
      refine w_aload rfl ?_
      refine w_getI (g_68_22 _) fe_68_22 ok1 (fun z23 hz23 hl23 hh23 => ?_)
      refine w_push kc_m10 ?_
      refine w_iast (i := (z23).toNat) (ai_79 _) rfl (by omega) (by omega) (ae_79 _) ok1 (by omega) (fun t24 ht24 ok24 => ?_)
      have kf24_68_9 : tI t24 68 9 = tI t1 68 9 := by rw [ht24]; rfl
      have kf24_68_10 : tI t24 68 10 = tI t1 68 10 := by rw [ht24]; rfl
      have kf24_68_11 : tI t24 68 11 = tI t1 68 11 := by rw [ht24]; rfl
      have kf24_68_12 : tI t24 68 12 = tI t1 68 12 := by rw [ht24]; rfl
      have kf24_68_13 : tI t24 68 13 = tI t1 68 13 := by rw [ht24]; rfl
      have kf24_68_14 : tI t24 68 14 = tI t1 68 14 := by rw [ht24]; rfl
      have kf24_68_19 : tI t24 68 19 = tI t1 68 19 := by rw [ht24]; rfl
      have kf24_68_20 : tI t24 68 20 = tI t1 68 20 := by rw [ht24]; rfl
      have kf24_68_22 : tI t24 68 22 = tI t1 68 22 := by rw [ht24]; rfl
      have fr24 := fr1.uA ht24 (by simp)
      have p1 := ht24
      have c1 := cr.uA ht24 (by decide)
      refine w_aload rfl ?_
      refine w_dupR ?_
      refine w_getI (g_68_22 _) fe_68_22 ok24 (fun z25 hz25 hl25 hh25 => ?_)
      refine w_push kc_1 ?_
      refine w_add ?_
      refine w_putI (p_68_22 _) fe_68_22 ok24 (by omega) (fun t26 ht26 ok26 => ?_)
      have kf26_68_9 : tI t26 68 9 = tI t24 68 9 := by rw [ht26, tI_uI, if_neg (by decide)]
      have kf26_68_10 : tI t26 68 10 = tI t24 68 10 := by rw [ht26, tI_uI, if_neg (by decide)]
      have kf26_68_11 : tI t26 68 11 = tI t24 68 11 := by rw [ht26, tI_uI, if_neg (by decide)]
      have kf26_68_12 : tI t26 68 12 = tI t24 68 12 := by rw [ht26, tI_uI, if_neg (by decide)]
      have kf26_68_13 : tI t26 68 13 = tI t24 68 13 := by rw [ht26, tI_uI, if_neg (by decide)]
      have kf26_68_14 : tI t26 68 14 = tI t24 68 14 := by rw [ht26, tI_uI, if_neg (by decide)]
      have kf26_68_19 : tI t26 68 19 = tI t24 68 19 := by rw [ht26, tI_uI, if_neg (by decide)]
      have kf26_68_20 : tI t26 68 20 = tI t24 68 20 := by rw [ht26, tI_uI, if_neg (by decide)]
      have kf26_68_22 : tI t26 68 22 = (z25 + 1) := by rw [ht26, tI_uI, if_pos ⟨rfl, rfl⟩]
      have fr26 := fr24.uI ht26 (by simp)
      have p2 := ht26
      have eE : EN t26 0 (parens + (if (-10 : Int) = -11 then 1 else 0)) := EN.psh (v := -10) e0 (by omega) (by omega) (by omega) (by omega) (fun i => by rw [p2, tA_uI, p1, tA_uA, if_neg (by omega)]) (fun i => by
        rw [p2, tA_uI, p1, tA_uA]
        by_cases h9 : i = (tI t1 68 22).toNat
        · rw [if_pos (by omega), if_pos h9]
        · rw [if_neg (by omega), if_neg h9])
      have c2 := c1.uI ht26 (by omega)
      have sS : stR t26 = -10 :: stR t1 := st_push (by omega) (by omega) (fun i => by
        rw [p2, tA_uI, p1, tA_uA]
        by_cases h9 : i = (tI t1 68 22).toNat
        · rw [if_pos (by omega), if_pos h9]
        · rw [if_neg (by omega), if_neg h9])
      have sO : coR t26 = coR t1 := co_same (by omega) (fun i => by rw [p2, tA_uI, p1, tA_uA, if_neg (by omega)])
      have sT : tA t26 80 = tA t1 80 := by
        funext i
        rw [p2, tA_uI, p1, tA_uA, if_neg (by omega)]
      refine w_iinc (lv' := [some (.ref 68), some (.int (jI parens)), some (.int (jI (nots + 1))), some (.int (jI wants)), dv o4]) kc_1 rfl rfl ?_
      refine w_aload rfl ?_
      refine w_callV0V (oj_68 _).choose_spec rfl (e_X9_go ok26 (by omega) (c2.go wc (tk_ne wc (by omega)))) ?_
      rintro t27 ⟨ok27, fq27, hp27_0, hp27_1, hp27_2, hp27_3, hp27_4, hp27_5⟩
      have fr27 := fr26.then fq27 (by simp)
      have kf27_68_9 : tI t27 68 9 = tI t26 68 9 := fq27.1 68 9 (by simp)
      have kf27_68_19 : tI t27 68 19 = tI t26 68 19 := fq27.1 68 19 (by simp)
      have kf27_68_20 : tI t27 68 20 = tI t26 68 20 := fq27.1 68 20 (by simp)
      have kf27_68_22 : tI t27 68 22 = tI t26 68 22 := fq27.1 68 22 (by simp)
      have eE := eE.fr fq27 (by simp) (by simp) (by simp) (by simp)
      have cG : CRx t27 (stC (tA t 75) (tI t 68 9) cc) := by
        have h9 := hp27_5
        rw [show tA t26 75 = tA t 75 from funext (fr26.2.1 75 (by simp)), show tI t26 68 9 = tI t 68 9 by omega] at h9
        exact h9
      have sS := (st_same (u := t26) (v := t27) (fq27.1 68 22 (by simp)) (fq27.2.1 79 (by simp))).trans sS
      have sO := (co_same (u := t26) (v := t27) (fq27.1 68 19 (by simp)) (fq27.2.1 78 (by simp))).trans sO
      have sT := (show tA t27 80 = tA t26 80 from funext (fq27.2.1 80 (by simp))).trans sT
      have eY : ∀ k9 : Int, k9 = noS (stR t27) → TEp t c t27 parens k9 wants := fun k9 h9 => te_s2 hT0 wc rc (sy_not (by omega) ⟨(si_u gr cr wc (x := 33) (by decide)).mpr (by omega), by omega⟩) (by omega) rfl (by rw [h9, sS]) cG sS sO (by omega) sT
      refine w_goto ?_
      refine w_step rfl ?_
      refine w_aload rfl ?_
      refine w_callV0I (oj_68 _).choose_spec rfl (e_X9_notsOpen ok27) ?_
      rintro z28 t28 ⟨rfl, hp28_0, hp28_1, hp28_2⟩
      have hno := hp28_2
      refine w_istore (lv' := [some (.ref 68), some (.int (jI parens)), some (.int (jI z28)), some (.int (jI wants)), dv o4]) rfl ?_
      refine w_goto ?_
      have eB : EN t27 (1 - wants) (parens) := by
        first
          | (have h9 : (1 : Int) - wants = 0 := by omega
             rw [h9]; have h8 : parens = parens + (if (-10 : Int) = -11 then 1 else 0) := by simp
             rw [h8]; exact eE)
          | (have h9 : (1 : Int) - wants = 0 := by omega
             rw [h9]; have h8 : parens = parens + (if (-11 : Int) = -11 then 1 else 0) := by simp
             rw [h8]; exact eE)
          | (have h9 : (1 : Int) - wants = 1 := by omega
             rw [h9]; exact eP (by omega))
          | (have h9 : (1 : Int) - wants = 1 := by omega
             rw [h9]; have h8 : parens = parens - 1 := by omega
             rw [h8]; exact eE)
          | (have h9 : (1 : Int) - wants = 0 := by omega
             rw [h9]; exact eE)
      have eT : TEp t c t27 (parens) (z28) (wants) := by
        first
          | exact eY
          | exact eY _ hno
          | exact eY.go (by omega) _ hno
          | omega
      exact ih1 _ parens z28 wants o4 t27 ok27 fr27 eB (by omega) (by omega) (by omega) (by omega) (by omega) (by omega) (by omega) (by omega) (by omega) (by omega) (by omega) (by omega) (by omega) eT (by omega) (by omega)
    refine w_aload rfl ?_
    refine w_getI (g_68_12 _) fe_68_12 ok1 (fun z29 hz29 hl29 hh29 => ?_)
    have e12 := hz29
    refine w_ieq (by omega) (fun h30 => ?_) (fun h30 => ?_)
    · skip
      refine w_step rfl ?_
      have e1 : EN t1 1 parens := by
        have h9 : 1 - wants = 1 := by omega
        rw [h9] at i1_0
        exact i1_0
      refine w_aload rfl ?_
      refine w_push kc_0 ?_
      refine w_callV1V (oj_68 _).choose_spec rfl (e_X9_settle ok1 e1.1 (by omega) (by omega) (by omega)) ?_
      rintro t31 ⟨ok31, fq31, hp31_0, hp31_1, hp31_2, hp31_3, hp31_4, hp31_5⟩
      have fr31 := fr1.then fq31 (by simp)
      have kf31_68_9 : tI t31 68 9 = tI t1 68 9 := fq31.1 68 9 (by simp)
      have kf31_68_10 : tI t31 68 10 = tI t1 68 10 := fq31.1 68 10 (by simp)
      have kf31_68_11 : tI t31 68 11 = tI t1 68 11 := fq31.1 68 11 (by simp)
      have kf31_68_12 : tI t31 68 12 = tI t1 68 12 := fq31.1 68 12 (by simp)
      have kf31_68_13 : tI t31 68 13 = tI t1 68 13 := fq31.1 68 13 (by simp)
      have kf31_68_14 : tI t31 68 14 = tI t1 68 14 := fq31.1 68 14 (by simp)
      have kf31_68_20 : tI t31 68 20 = tI t1 68 20 := fq31.1 68 20 (by simp)
      have eE := (show EN t1 1 parens from e1).st fq31 (by simp) hp31_0 hp31_4
      have r2 := (ok31.f fe_68_22).1
      have s1 := se_t hp31_5 rfl rfl
      have f11 : tI t31 68 11 = tI t1 68 11 := fq31.1 68 11 (by simp)
      have eZ14 : ImpP (parens = 0) (TFp t c 1 t31) := fun h9 => tf_1 hT0 rc (sy_e1 (by omega) (by omega) h9) s1.2 (by omega) rfl
      have eZ15 : ImpP (¬ parens = 0) (TFp t c 0 t31) := fun h9 => tf_0 hT0 rc (sy_e0 (by omega) (by omega) h9) (by rw [f11]; exact tc.symm) rfl
      refine w_iload rfl ?_
      refine w_ine (by omega) (fun h32 => ?_) (fun h32 => ?_)
      · skip
        refine w_step rfl ?_
        refine w_push kc_0 ?_
        refine w_goto ?_
        refine w_step rfl ?_
        refine w_retI rfl ?_
        exact ⟨ok31, fr31, (by omega), (by omega), (by first | exact (fun _ => eE.1.1) | (intro h9; exact absurd rfl h9)), (by omega), (by first | exact eZ5.go (by omega) | exact eZ8.go (by omega) | exact eZ13.go (by omega) | exact eZ14.go (by omega) | exact eZ15.go (by omega) | omega)⟩
      refine w_push kc_1 ?_
      refine w_goto ?_
      refine w_step rfl ?_
      refine w_retI rfl ?_
      exact ⟨ok31, fr31, (by omega), (by omega), (by first | exact (fun _ => eE.1.1) | (intro h9; exact absurd rfl h9)), (by omega), (by first | exact eZ5.go (by omega) | exact eZ8.go (by omega) | exact eZ13.go (by omega) | exact eZ14.go (by omega) | exact eZ15.go (by omega) | omega)⟩
    refine w_goto ?_
    have key3 : ∀ (M3 : Nat) (o4c : Option Int), (¬ wants = 0) → (NotP (tI t1 68 12 = 3 ∧ tI t1 68 13 = 33 ∧ nots < 8)) → 100 * n1 + 1080 ≤ M3 → Rn (bX9_takesE (EX FU (d + 3))) M3 3 [some (.ref 68), some (.int (jI parens)), some (.int (jI nots)), some (.int (jI wants)), dv o4c] [] (mk t1) (PI (fun z t' => OK t' ∧ Fr [(68, 10), (68, 11), (68, 12), (68, 13), (68, 14), (68, 19), (68, 20), (68, 22), (78, 100), (79, 100), (80, 100)] t t' ∧ (0 ≤ z) ∧ (z ≤ 1) ∧ (¬ z = 0 → wfC (tA t' 78) (tI t' 68 19).toNat) ∧ (tI t' 68 19 ≤ 95 ∨ z = 0) ∧ (TFp t c z t'))) := by
      intro M3 o4c i3_0 i3_1 f3
      obtain ⟨M3, rfl⟩ : ∃ m, M3 = m + 10 := ⟨M3 - 10, by omega⟩
      have e0 : EN t1 0 parens := by
        have h9 : 1 - wants = 0 := by omega
        rw [h9] at i1_0
        exact i1_0
      have key4 : ∀ (M4 : Nat) (o4d : Option Int), (NotP (tI t1 68 12 = 3 ∧ tI t1 68 13 = 40 ∧ parens < 8)) → 100 * n1 + 1060 ≤ M4 → Rn (bX9_takesE (EX FU (d + 3))) M4 4 [some (.ref 68), some (.int (jI parens)), some (.int (jI nots)), some (.int (jI wants)), dv o4d] [] (mk t1) (PI (fun z t' => OK t' ∧ Fr [(68, 10), (68, 11), (68, 12), (68, 13), (68, 14), (68, 19), (68, 20), (68, 22), (78, 100), (79, 100), (80, 100)] t t' ∧ (0 ≤ z) ∧ (z ≤ 1) ∧ (¬ z = 0 → wfC (tA t' 78) (tI t' 68 19).toNat) ∧ (tI t' 68 19 ≤ 95 ∨ z = 0) ∧ (TFp t c z t'))) := by
        intro M4 o4d i4_0 f4
        obtain ⟨M4, rfl⟩ : ∃ m, M4 = m + 10 := ⟨M4 - 10, by omega⟩
        refine w_step rfl ?_
        refine w_aload rfl ?_
        refine w_callV0I (oj_68 _).choose_spec rfl (e_X9_takesPart ok1 e0 (by omega) (by omega) (by omega) cr (by rw [gr.2.1]; exact wc)) ?_
        rintro z33 t33 ⟨ok33, fq33, hp33_0, hp33_1, hp33_2, hp33_3, hp33_4, hp33_5, hp33_6, hp33_7, hp33_8, hp33_9, hp33_10, hp33_11⟩
        have fr33 := fr1.then fq33 (by simp)
        have kf33_68_9 : tI t33 68 9 = tI t1 68 9 := fq33.1 68 9 (by simp)
        have eP := hp33_2
        have tP := hp33_11
        have fT : tA t33 80 = tA t1 80 := funext (fq33.2.1 80 (by simp))
        have eY : ImpP (¬ z33 = 0) (∀ k9 : Int, k9 = noS (stR t33) → TEp t c t33 parens k9 0) := by
          unfold ImpP
          intro hz9 k9 h9
          obtain ⟨t1, t2, t3, t4, t5⟩ := tP.resolve_right (fun h => hz9 h.1)
          rw [gr.1, gr.2.2] at t4
          rw [gr.1, gr.2.1] at t3
          refine te_s2 hT0 wc rc (sy_opd (by omega) (fun h9 => i3_1 ⟨((si_u gr cr wc (x := 33) (by decide)).mp h9.1).1, ((si_u gr cr wc (x := 33) (by decide)).mp h9.1).2, h9.2⟩) (fun h9 => i4_0 ⟨((si_u gr cr wc (x := 40) (by decide)).mp h9.1).1, ((si_u gr cr wc (x := 40) (by decide)).mp h9.1).2, h9.2⟩) (pt_u gr t2)) rfl rfl ?_ t3 (by rw [← t4]) (by rw [← t4]) t5 fT
          rw [h9, ← t4]
        have eZ5 : ImpP (z33 = 0) (TFp t c 0 t33) := by
          unfold ImpP
          intro hz9
          obtain ⟨t1, t2, t3⟩ := tP.resolve_left (fun h => by have h9 := h.1; omega)
          exact tf_0 hT0 rc (sy_bad (by omega) (fun h9 => i3_1 ⟨((si_u gr cr wc (x := 33) (by decide)).mp h9.1).1, ((si_u gr cr wc (x := 33) (by decide)).mp h9.1).2, h9.2⟩) (fun h9 => i4_0 ⟨((si_u gr cr wc (x := 40) (by decide)).mp h9.1).1, ((si_u gr cr wc (x := 40) (by decide)).mp h9.1).2, h9.2⟩) (pt_v gr t2)) (by rw [t3]; exact tc.symm) rfl
        refine w_ieq (by omega) (fun h34 => ?_) (fun h34 => ?_)
        · skip
          refine w_step rfl ?_
          refine w_push kc_0 ?_
          refine w_retI rfl ?_
          exact ⟨ok33, fr33, (by omega), (by omega), (by first | exact (fun _ => eE.1.1) | (intro h9; exact absurd rfl h9)), (by omega), (by first | exact eZ5.go (by omega) | exact eZ8.go (by omega) | exact eZ13.go (by omega) | exact eZ14.go (by omega) | exact eZ15.go (by omega) | omega)⟩
        refine w_push kc_0 ?_
        refine w_istore (lv' := [some (.ref 68), some (.int (jI parens)), some (.int (jI nots)), some (.int (jI 0)), dv o4d]) rfl ?_
        refine w_goto ?_
        refine w_step rfl ?_
        refine w_aload rfl ?_
        refine w_callV0I (oj_68 _).choose_spec rfl (e_X9_notsOpen ok33) ?_
        rintro z35 t35 ⟨rfl, hp35_0, hp35_1, hp35_2⟩
        have hno := hp35_2
        refine w_istore (lv' := [some (.ref 68), some (.int (jI parens)), some (.int (jI z35)), some (.int (jI 0)), dv o4d]) rfl ?_
        refine w_goto ?_
        have eB : EN t33 (1 - 0) (parens) := by
          first
            | (have h9 : (1 : Int) - 0 = 0 := by omega
               rw [h9]; have h8 : parens = parens + (if (-10 : Int) = -11 then 1 else 0) := by simp
               rw [h8]; exact eE)
            | (have h9 : (1 : Int) - 0 = 0 := by omega
               rw [h9]; have h8 : parens = parens + (if (-11 : Int) = -11 then 1 else 0) := by simp
               rw [h8]; exact eE)
            | (have h9 : (1 : Int) - 0 = 1 := by omega
               rw [h9]; exact eP (by omega))
            | (have h9 : (1 : Int) - 0 = 1 := by omega
               rw [h9]; have h8 : parens = parens - 1 := by omega
               rw [h8]; exact eE)
            | (have h9 : (1 : Int) - 0 = 0 := by omega
               rw [h9]; exact eE)
        have eT : TEp t c t33 (parens) (z35) (0) := by
          first
            | exact eY
            | exact eY _ hno
            | exact eY.go (by omega) _ hno
            | omega
        exact ih1 _ parens z35 0 o4d t33 ok33 fr33 eB (by omega) (by omega) (by omega) (by omega) (by omega) (by omega) (by omega) (by omega) (by omega) (by omega) (by omega) (by omega) (by omega) eT (by omega) (by omega)
      refine w_step rfl ?_
      refine w_aload rfl ?_
      refine w_getI (g_68_12 _) fe_68_12 ok1 (fun z36 hz36 hl36 hh36 => ?_)
      refine w_push kc_3 ?_
      refine w_cne (by omega) (fun h37 => ?_) (fun h37 => ?_)
      · skip
        exact key4  _ o4c  (by unfold NotP; omega)  (by omega)
      refine w_aload rfl ?_
      refine w_getI (g_68_13 _) fe_68_13 ok1 (fun z38 hz38 hl38 hh38 => ?_)
      refine w_push kc_40 ?_
      refine w_cne (by omega) (fun h39 => ?_) (fun h39 => ?_)
      · skip
        exact key4  _ o4c  (by unfold NotP; omega)  (by omega)
      refine w_iload rfl ?_
      refine w_push kc_8 ?_
      refine w_cge (by omega) (fun h40 => ?_) (fun h40 => ?_)
      · skip
        exact key4  _ o4c  (by unfold NotP; omega)  (by omega)
      refine w_aload rfl ?_
      refine w_getR (g_68_21 _) ?_
      refine w_aload rfl ?_
      refine w_getI (g_68_22 _) fe_68_22 ok1 (fun z41 hz41 hl41 hh41 => ?_)
      refine w_push kc_m11 ?_
      refine w_iast (i := (z41).toNat) (ai_79 _) rfl (by omega) (by omega) (ae_79 _) ok1 (by omega) (fun t42 ht42 ok42 => ?_)
      have kf42_68_9 : tI t42 68 9 = tI t1 68 9 := by rw [ht42]; rfl
      have kf42_68_10 : tI t42 68 10 = tI t1 68 10 := by rw [ht42]; rfl
      have kf42_68_11 : tI t42 68 11 = tI t1 68 11 := by rw [ht42]; rfl
      have kf42_68_12 : tI t42 68 12 = tI t1 68 12 := by rw [ht42]; rfl
      have kf42_68_13 : tI t42 68 13 = tI t1 68 13 := by rw [ht42]; rfl
      have kf42_68_14 : tI t42 68 14 = tI t1 68 14 := by rw [ht42]; rfl
      have kf42_68_19 : tI t42 68 19 = tI t1 68 19 := by rw [ht42]; rfl
      have kf42_68_20 : tI t42 68 20 = tI t1 68 20 := by rw [ht42]; rfl
      have kf42_68_22 : tI t42 68 22 = tI t1 68 22 := by rw [ht42]; rfl
      have fr42 := fr1.uA ht42 (by simp)
      have p1 := ht42
      have c1 := cr.uA ht42 (by decide)
      refine w_aload rfl ?_
      refine w_dupR ?_
      refine w_getI (g_68_22 _) fe_68_22 ok42 (fun z43 hz43 hl43 hh43 => ?_)
      refine w_push kc_1 ?_
      refine w_add ?_
      refine w_putI (p_68_22 _) fe_68_22 ok42 (by omega) (fun t44 ht44 ok44 => ?_)
      have kf44_68_9 : tI t44 68 9 = tI t42 68 9 := by rw [ht44, tI_uI, if_neg (by decide)]
      have kf44_68_10 : tI t44 68 10 = tI t42 68 10 := by rw [ht44, tI_uI, if_neg (by decide)]
      have kf44_68_11 : tI t44 68 11 = tI t42 68 11 := by rw [ht44, tI_uI, if_neg (by decide)]
      have kf44_68_12 : tI t44 68 12 = tI t42 68 12 := by rw [ht44, tI_uI, if_neg (by decide)]
      have kf44_68_13 : tI t44 68 13 = tI t42 68 13 := by rw [ht44, tI_uI, if_neg (by decide)]
      have kf44_68_14 : tI t44 68 14 = tI t42 68 14 := by rw [ht44, tI_uI, if_neg (by decide)]
      have kf44_68_19 : tI t44 68 19 = tI t42 68 19 := by rw [ht44, tI_uI, if_neg (by decide)]
      have kf44_68_20 : tI t44 68 20 = tI t42 68 20 := by rw [ht44, tI_uI, if_neg (by decide)]
      have kf44_68_22 : tI t44 68 22 = (z43 + 1) := by rw [ht44, tI_uI, if_pos ⟨rfl, rfl⟩]
      have fr44 := fr42.uI ht44 (by simp)
      have p2 := ht44
      have eE : EN t44 0 (parens + (if (-11 : Int) = -11 then 1 else 0)) := EN.psh (v := -11) e0 (by omega) (by omega) (by omega) (by omega) (fun i => by rw [p2, tA_uI, p1, tA_uA, if_neg (by omega)]) (fun i => by
        rw [p2, tA_uI, p1, tA_uA]
        by_cases h9 : i = (tI t1 68 22).toNat
        · rw [if_pos (by omega), if_pos h9]
        · rw [if_neg (by omega), if_neg h9])
      have c2 := c1.uI ht44 (by omega)
      have sS : stR t44 = -11 :: stR t1 := st_push (by omega) (by omega) (fun i => by
        rw [p2, tA_uI, p1, tA_uA]
        by_cases h9 : i = (tI t1 68 22).toNat
        · rw [if_pos (by omega), if_pos h9]
        · rw [if_neg (by omega), if_neg h9])
      have sO : coR t44 = coR t1 := co_same (by omega) (fun i => by rw [p2, tA_uI, p1, tA_uA, if_neg (by omega)])
      have sT : tA t44 80 = tA t1 80 := by
        funext i
        rw [p2, tA_uI, p1, tA_uA, if_neg (by omega)]
      refine w_iinc (lv' := [some (.ref 68), some (.int (jI (parens + 1))), some (.int (jI nots)), some (.int (jI wants)), dv o4c]) kc_1 rfl rfl ?_
      refine w_aload rfl ?_
      refine w_getR (g_68_23 _) ?_
      refine w_iload rfl ?_
      refine w_push kc_0 ?_
      refine w_iast (i := ((parens + 1)).toNat) (ai_80 _) (nar_bool (by omega)) (by omega) (by omega) (ae_80 _) ok44 (by omega) (fun t45 ht45 ok45 => ?_)
      have kf45_68_9 : tI t45 68 9 = tI t44 68 9 := by rw [ht45]; rfl
      have kf45_68_10 : tI t45 68 10 = tI t44 68 10 := by rw [ht45]; rfl
      have kf45_68_11 : tI t45 68 11 = tI t44 68 11 := by rw [ht45]; rfl
      have kf45_68_12 : tI t45 68 12 = tI t44 68 12 := by rw [ht45]; rfl
      have kf45_68_13 : tI t45 68 13 = tI t44 68 13 := by rw [ht45]; rfl
      have kf45_68_14 : tI t45 68 14 = tI t44 68 14 := by rw [ht45]; rfl
      have kf45_68_19 : tI t45 68 19 = tI t44 68 19 := by rw [ht45]; rfl
      have kf45_68_20 : tI t45 68 20 = tI t44 68 20 := by rw [ht45]; rfl
      have kf45_68_22 : tI t45 68 22 = tI t44 68 22 := by rw [ht45]; rfl
      have fr45 := fr44.uA ht45 (by simp)
      have eE := eE.uAo ht45 (by decide) (by decide)
      have c2 := c2.uA ht45 (by decide)
      have sS := (st_same (u := t44) (v := t45) (by rw [ht45]; rfl) (fun i => by rw [ht45, tA_uA, if_neg (by omega)])).trans sS
      have sO := (co_same (u := t44) (v := t45) (by rw [ht45]; rfl) (fun i => by rw [ht45, tA_uA, if_neg (by omega)])).trans sO
      have sT : tA t45 80 = upF (tA t1 80) (parens + 1).toNat 0 := by
        funext i
        rw [ht45, tA_uA, sT]
        show _ = (if i = (parens + 1).toNat then _ else _)
        by_cases h9 : i = (parens + 1).toNat
        · rw [if_pos ⟨rfl, h9⟩, if_pos h9]
        · rw [if_neg (fun h8 => h9 h8.2), if_neg h9]
      refine w_aload rfl ?_
      refine w_callV0V (oj_68 _).choose_spec rfl (e_X9_go ok45 (by omega) (c2.go wc (tk_ne wc (by omega)))) ?_
      rintro t46 ⟨ok46, fq46, hp46_0, hp46_1, hp46_2, hp46_3, hp46_4, hp46_5⟩
      have fr46 := fr45.then fq46 (by simp)
      have kf46_68_9 : tI t46 68 9 = tI t45 68 9 := fq46.1 68 9 (by simp)
      have kf46_68_19 : tI t46 68 19 = tI t45 68 19 := fq46.1 68 19 (by simp)
      have kf46_68_20 : tI t46 68 20 = tI t45 68 20 := fq46.1 68 20 (by simp)
      have kf46_68_22 : tI t46 68 22 = tI t45 68 22 := fq46.1 68 22 (by simp)
      have eE := eE.fr fq46 (by simp) (by simp) (by simp) (by simp)
      have cG : CRx t46 (stC (tA t 75) (tI t 68 9) cc) := by
        have h9 := hp46_5
        rw [show tA t45 75 = tA t 75 from funext (fr45.2.1 75 (by simp)), show tI t45 68 9 = tI t 68 9 by omega] at h9
        exact h9
      have sS := (st_same (u := t45) (v := t46) (fq46.1 68 22 (by simp)) (fq46.2.1 79 (by simp))).trans sS
      have sO := (co_same (u := t45) (v := t46) (fq46.1 68 19 (by simp)) (fq46.2.1 78 (by simp))).trans sO
      have sT := (show tA t46 80 = tA t45 80 from funext (fq46.2.1 80 (by simp))).trans sT
      have eY : ∀ k9 : Int, k9 = noS (stR t46) → TEp t c t46 (parens + 1) k9 wants := fun k9 h9 => te_s2 hT0 wc rc (sy_par (by omega) (fun h9 => i3_1 ⟨((si_u gr cr wc (x := 33) (by decide)).mp h9.1).1, ((si_u gr cr wc (x := 33) (by decide)).mp h9.1).2, h9.2⟩) ⟨(si_u gr cr wc (x := 40) (by decide)).mpr (by omega), by omega⟩) (by omega) rfl (by rw [h9, sS]) cG sS sO (by omega) sT
      refine w_goto ?_
      refine w_step rfl ?_
      refine w_aload rfl ?_
      refine w_callV0I (oj_68 _).choose_spec rfl (e_X9_notsOpen ok46) ?_
      rintro z47 t47 ⟨rfl, hp47_0, hp47_1, hp47_2⟩
      have hno := hp47_2
      refine w_istore (lv' := [some (.ref 68), some (.int (jI (parens + 1))), some (.int (jI z47)), some (.int (jI wants)), dv o4c]) rfl ?_
      refine w_goto ?_
      have eB : EN t46 (1 - wants) ((parens + 1)) := by
        first
          | (have h9 : (1 : Int) - wants = 0 := by omega
             rw [h9]; have h8 : (parens + 1) = parens + (if (-10 : Int) = -11 then 1 else 0) := by simp
             rw [h8]; exact eE)
          | (have h9 : (1 : Int) - wants = 0 := by omega
             rw [h9]; have h8 : (parens + 1) = parens + (if (-11 : Int) = -11 then 1 else 0) := by simp
             rw [h8]; exact eE)
          | (have h9 : (1 : Int) - wants = 1 := by omega
             rw [h9]; exact eP (by omega))
          | (have h9 : (1 : Int) - wants = 1 := by omega
             rw [h9]; have h8 : (parens + 1) = parens - 1 := by omega
             rw [h8]; exact eE)
          | (have h9 : (1 : Int) - wants = 0 := by omega
             rw [h9]; exact eE)
      have eT : TEp t c t46 ((parens + 1)) (z47) (wants) := by
        first
          | exact eY
          | exact eY _ hno
          | exact eY.go (by omega) _ hno
          | omega
      exact ih1 _ (parens + 1) z47 wants o4c t46 ok46 fr46 eB (by omega) (by omega) (by omega) (by omega) (by omega) (by omega) (by omega) (by omega) (by omega) (by omega) (by omega) (by omega) (by omega) eT (by omega) (by omega)
    refine w_step rfl ?_
    refine w_iload rfl ?_
    refine w_ieq (by omega) (fun _ => ?_) (fun h => absurd (by omega) h)
    have key8 : ∀ (M8 : Nat) (o4b : Option Int), (NotP (tI t1 68 12 = 3 ∧ tI t1 68 13 = 41 ∧ 0 < parens)) → 100 * n1 + 1060 ≤ M8 → Rn (bX9_takesE (EX FU (d + 3))) M8 8 [some (.ref 68), some (.int (jI parens)), some (.int (jI nots)), some (.int (jI wants)), dv o4b] [] (mk t1) (PI (fun z t' => OK t' ∧ Fr [(68, 10), (68, 11), (68, 12), (68, 13), (68, 14), (68, 19), (68, 20), (68, 22), (78, 100), (79, 100), (80, 100)] t t' ∧ (0 ≤ z) ∧ (z ≤ 1) ∧ (¬ z = 0 → wfC (tA t' 78) (tI t' 68 19).toNat) ∧ (tI t' 68 19 ≤ 95 ∨ z = 0) ∧ (TFp t c z t'))) := by
      intro M8 o4b i8_0 f8
      obtain ⟨M8, rfl⟩ : ∃ m, M8 = m + 60 := ⟨M8 - 60, by omega⟩
      have ht9 : ¬ tkF cc = 0 := fun h9 => by rw [← tk, ← e12] at h9; contradiction
      have e1 : EN t1 1 parens := by
        have h9 : 1 - wants = 1 := by omega
        rw [h9] at i1_0
        exact i1_0
      have key10 : ∀ (M10 : Nat) (sg : Int), (-9 ≤ sg) → (sg ≤ -1) → (sg = sgF (siF (tA t 75) (tI t 68 9) cc)) → (NotP (rkF sg = 3 ∧ ¬ tA t1 80 parens.toNat = 0)) → 100 * n1 + 1030 ≤ M10 → Rn (bX9_takesE (EX FU (d + 3))) M10 10 [some (.ref 68), some (.int (jI parens)), some (.int (jI nots)), some (.int (jI wants)), some (.int (jI sg))] [] (mk t1) (PI (fun z t' => OK t' ∧ Fr [(68, 10), (68, 11), (68, 12), (68, 13), (68, 14), (68, 19), (68, 20), (68, 22), (78, 100), (79, 100), (80, 100)] t t' ∧ (0 ≤ z) ∧ (z ≤ 1) ∧ (¬ z = 0 → wfC (tA t' 78) (tI t' 68 19).toNat) ∧ (tI t' 68 19 ≤ 95 ∨ z = 0) ∧ (TFp t c z t'))) := by
        intro M10 sg i10_0 i10_1 i10_2 i10_3 f10
        obtain ⟨M10, rfl⟩ : ∃ m, M10 = m + 30 := ⟨M10 - 30, by omega⟩
        refine w_step rfl ?_
        refine w_aload rfl ?_
        refine w_getR (g_68_23 _) ?_
        refine w_iload rfl ?_
        refine w_iload rfl ?_
        refine w_callS1I rfl (e_X9_rank ok1 (by omega) (by omega)) ?_
        rintro z48 t48 ⟨rfl, hp48_0, hp48_1, hp48_2⟩
        have er := hp48_2
        refine w_push kc_3 ?_
        refine w_ceq (by omega) (fun h49 => ?_) (fun h49 => ?_)
        · skip
          refine w_step rfl ?_
          refine w_push kc_1 ?_
          refine w_goto ?_
          refine w_step rfl ?_
          refine w_iast (i := (parens).toNat) (ai_80 _) (nar_bool (by omega)) (by omega) (by omega) (ae_80 _) ok1 (by omega) (fun t50 ht50 ok50 => ?_)
          have kf50_68_9 : tI t50 68 9 = tI t1 68 9 := by rw [ht50]; rfl
          have kf50_68_10 : tI t50 68 10 = tI t1 68 10 := by rw [ht50]; rfl
          have kf50_68_11 : tI t50 68 11 = tI t1 68 11 := by rw [ht50]; rfl
          have kf50_68_12 : tI t50 68 12 = tI t1 68 12 := by rw [ht50]; rfl
          have kf50_68_13 : tI t50 68 13 = tI t1 68 13 := by rw [ht50]; rfl
          have kf50_68_14 : tI t50 68 14 = tI t1 68 14 := by rw [ht50]; rfl
          have kf50_68_19 : tI t50 68 19 = tI t1 68 19 := by rw [ht50]; rfl
          have kf50_68_20 : tI t50 68 20 = tI t1 68 20 := by rw [ht50]; rfl
          have kf50_68_22 : tI t50 68 22 = tI t1 68 22 := by rw [ht50]; rfl
          have fr50 := fr1.uA ht50 (by simp)
          have eE := (show EN t1 1 parens from e1).uAo ht50 (by decide) (by decide)
          have c1 := cr.uA ht50 (by decide)
          have eV : (1 : Int) = (if rkF sg = 3 ∨ (3 < rkF sg ∧ ¬ tA t1 80 parens.toNat = 0) then 1 else 0) := by
            first
              | rw [if_pos (Or.inl (by rw [← er]; assumption))]
              | rw [if_pos (Or.inr ⟨by rw [← er2]; omega, by rw [← et]; assumption⟩)]
              | rw [if_neg (fun h9 => h9.elim (fun h8 => by rw [← er] at h8; contradiction) (fun h8 => by have h7 := h8.1; rw [← er2] at h7; omega))]
              | rw [if_neg (fun h9 => h9.elim (fun h8 => by rw [← er] at h8; contradiction) (fun h8 => by have h7 := h8.2; rw [← et] at h7; contradiction))]
              | omega
          have sT : tA t50 80 = upF (tA t1 80) parens.toNat (if rkF sg = 3 ∨ (3 < rkF sg ∧ ¬ tA t1 80 parens.toNat = 0) then 1 else 0) := by
            funext i
            rw [ht50, tA_uA, ← eV]
            show _ = (if i = parens.toNat then _ else _)
            by_cases h9 : i = parens.toNat
            · rw [if_pos ⟨rfl, h9⟩, if_pos h9]
            · rw [if_neg (fun h8 => h9 h8.2), if_neg h9]
          have s1 : stR t50 = stR t1 := st_same (by rw [ht50]; rfl) (fun i => by rw [ht50, tA_uA, if_neg (by omega)])
          have s2 : coR t50 = coR t1 := co_same (by rw [ht50]; rfl) (fun i => by rw [ht50, tA_uA, if_neg (by omega)])
          refine w_aload rfl ?_
          refine w_iload rfl ?_
          refine w_callS1I rfl (e_X9_rank ok50 (by omega) (by omega)) ?_
          rintro z51 t51 ⟨rfl, hp51_0, hp51_1, hp51_2⟩
          have er4 := hp51_2
          have hb5 : True := trivial
          refine w_callV1V (oj_68 _).choose_spec rfl (e_X9_settle ok50 eE.1 (by omega) (by omega) (by omega)) ?_
          rintro t52 ⟨ok52, fq52, hp52_0, hp52_1, hp52_2, hp52_3, hp52_4, hp52_5⟩
          have fr52 := fr50.then fq52 (by simp)
          have kf52_68_9 : tI t52 68 9 = tI t50 68 9 := fq52.1 68 9 (by simp)
          have kf52_68_10 : tI t52 68 10 = tI t50 68 10 := fq52.1 68 10 (by simp)
          have kf52_68_11 : tI t52 68 11 = tI t50 68 11 := fq52.1 68 11 (by simp)
          have kf52_68_12 : tI t52 68 12 = tI t50 68 12 := fq52.1 68 12 (by simp)
          have kf52_68_13 : tI t52 68 13 = tI t50 68 13 := fq52.1 68 13 (by simp)
          have kf52_68_14 : tI t52 68 14 = tI t50 68 14 := fq52.1 68 14 (by simp)
          have kf52_68_20 : tI t52 68 20 = tI t50 68 20 := fq52.1 68 20 (by simp)
          have eE := eE.st fq52 (by simp) hp52_0 hp52_4
          have rS := (ok52.f fe_68_22).1
          have s3 := se_t hp52_5 s1 s2
          rw [er4] at s3
          have c1 := c1.fr fq52 (by simp) (by simp) (by simp) (by simp) (by simp) (by simp)
          have sT := (show tA t52 80 = tA t50 80 from funext (fq52.2.1 80 (by simp))).trans sT
          refine w_aload rfl ?_
          refine w_getR (g_68_21 _) ?_
          refine w_aload rfl ?_
          refine w_getI (g_68_22 _) fe_68_22 ok52 (fun z53 hz53 hl53 hh53 => ?_)
          refine w_iload rfl ?_
          refine w_iast (i := (z53).toNat) (ai_79 _) rfl (by omega) (by omega) (ae_79 _) ok52 (by omega) (fun t54 ht54 ok54 => ?_)
          have kf54_68_9 : tI t54 68 9 = tI t52 68 9 := by rw [ht54]; rfl
          have kf54_68_10 : tI t54 68 10 = tI t52 68 10 := by rw [ht54]; rfl
          have kf54_68_11 : tI t54 68 11 = tI t52 68 11 := by rw [ht54]; rfl
          have kf54_68_12 : tI t54 68 12 = tI t52 68 12 := by rw [ht54]; rfl
          have kf54_68_13 : tI t54 68 13 = tI t52 68 13 := by rw [ht54]; rfl
          have kf54_68_14 : tI t54 68 14 = tI t52 68 14 := by rw [ht54]; rfl
          have kf54_68_19 : tI t54 68 19 = tI t52 68 19 := by rw [ht54]; rfl
          have kf54_68_20 : tI t54 68 20 = tI t52 68 20 := by rw [ht54]; rfl
          have kf54_68_22 : tI t54 68 22 = tI t52 68 22 := by rw [ht54]; rfl
          have fr54 := fr52.uA ht54 (by simp)
          have p1 := ht54
          have c1 := c1.uA ht54 (by decide)
          refine w_aload rfl ?_
          refine w_dupR ?_
          refine w_getI (g_68_22 _) fe_68_22 ok54 (fun z55 hz55 hl55 hh55 => ?_)
          refine w_push kc_1 ?_
          refine w_add ?_
          refine w_putI (p_68_22 _) fe_68_22 ok54 (by omega) (fun t56 ht56 ok56 => ?_)
          have kf56_68_9 : tI t56 68 9 = tI t54 68 9 := by rw [ht56, tI_uI, if_neg (by decide)]
          have kf56_68_10 : tI t56 68 10 = tI t54 68 10 := by rw [ht56, tI_uI, if_neg (by decide)]
          have kf56_68_11 : tI t56 68 11 = tI t54 68 11 := by rw [ht56, tI_uI, if_neg (by decide)]
          have kf56_68_12 : tI t56 68 12 = tI t54 68 12 := by rw [ht56, tI_uI, if_neg (by decide)]
          have kf56_68_13 : tI t56 68 13 = tI t54 68 13 := by rw [ht56, tI_uI, if_neg (by decide)]
          have kf56_68_14 : tI t56 68 14 = tI t54 68 14 := by rw [ht56, tI_uI, if_neg (by decide)]
          have kf56_68_19 : tI t56 68 19 = tI t54 68 19 := by rw [ht56, tI_uI, if_neg (by decide)]
          have kf56_68_20 : tI t56 68 20 = tI t54 68 20 := by rw [ht56, tI_uI, if_neg (by decide)]
          have kf56_68_22 : tI t56 68 22 = (z55 + 1) := by rw [ht56, tI_uI, if_pos ⟨rfl, rfl⟩]
          have fr56 := fr54.uI ht56 (by simp)
          have p2 := ht56
          have eE : EN t56 0 parens := eE.bin (v := sg) (by omega) (by omega) (by omega) (by omega) (fun i => by rw [p2, tA_uI, p1, tA_uA, if_neg (by omega)]) (fun i => by
            rw [p2, tA_uI, p1, tA_uA]
            by_cases h9 : i = (tI t52 68 22).toNat
            · rw [if_pos (by omega), if_pos h9]
            · rw [if_neg (by omega), if_neg h9])
          have c2 := c1.uI ht56 (by omega)
          have sS : stR t56 = sg :: (stF (rkF sg) (stR t1) (coR t1)).1 := by
            rw [← s3.1]
            exact st_push (by omega) (by omega) (fun i => by
              rw [p2, tA_uI, p1, tA_uA]
              by_cases h9 : i = (tI t52 68 22).toNat
              · rw [if_pos (by omega), if_pos h9]
              · rw [if_neg (by omega), if_neg h9])
          have sO : coR t56 = (stF (rkF sg) (stR t1) (coR t1)).2 := by
            rw [← s3.2]
            exact co_same (by omega) (fun i => by rw [p2, tA_uI, p1, tA_uA, if_neg (by omega)])
          have sT := (show tA t56 80 = tA t52 80 by funext i; rw [p2, tA_uI, p1, tA_uA, if_neg (by omega)]).trans sT
          refine w_push kc_1 ?_
          refine w_istore (lv' := [some (.ref 68), some (.int (jI parens)), some (.int (jI nots)), some (.int (jI 1)), some (.int (jI sg))]) rfl ?_
          refine w_aload rfl ?_
          refine w_callV0V (oj_68 _).choose_spec rfl (e_X9_go ok56 (by omega) (c2.go wc (tk_ne wc (by omega)))) ?_
          rintro t57 ⟨ok57, fq57, hp57_0, hp57_1, hp57_2, hp57_3, hp57_4, hp57_5⟩
          have fr57 := fr56.then fq57 (by simp)
          have kf57_68_9 : tI t57 68 9 = tI t56 68 9 := fq57.1 68 9 (by simp)
          have kf57_68_19 : tI t57 68 19 = tI t56 68 19 := fq57.1 68 19 (by simp)
          have kf57_68_20 : tI t57 68 20 = tI t56 68 20 := fq57.1 68 20 (by simp)
          have kf57_68_22 : tI t57 68 22 = tI t56 68 22 := fq57.1 68 22 (by simp)
          have eE := eE.fr fq57 (by simp) (by simp) (by simp) (by simp)
          have cG : CRx t57 (stC (tA t 75) (tI t 68 9) cc) := by
            have h9 := hp57_5
            rw [show tA t56 75 = tA t 75 from funext (fr56.2.1 75 (by simp)), show tI t56 68 9 = tI t 68 9 by omega] at h9
            exact h9
          have sS := (st_same (u := t56) (v := t57) (fq57.1 68 22 (by simp)) (fq57.2.1 79 (by simp))).trans sS
          have sO := (co_same (u := t56) (v := t57) (fq57.1 68 19 (by simp)) (fq57.2.1 78 (by simp))).trans sO
          have sT := (show tA t57 80 = tA t56 80 from funext (fq57.2.1 80 (by simp))).trans sT
          have eY : TEp t c t57 parens nots 1 := te_s2 hT0 wc rc (sy_sg (by omega) ht9 (fun h9 => i8_0 ⟨((si_u gr cr wc (x := 41) (by decide)).mp h9.1).1, ((si_u gr cr wc (x := 41) (by decide)).mp h9.1).2, h9.2⟩) i10_2 (fun h9 => h9.elim (fun h8 => by omega) (fun h8 => i10_3 h8))) rfl rfl rfl cG sS sO (by omega) sT
          refine w_goto ?_
          have eB : EN t57 (1 - 1) (parens) := by
            first
              | (have h9 : (1 : Int) - 1 = 0 := by omega
                 rw [h9]; have h8 : parens = parens + (if (-10 : Int) = -11 then 1 else 0) := by simp
                 rw [h8]; exact eE)
              | (have h9 : (1 : Int) - 1 = 0 := by omega
                 rw [h9]; have h8 : parens = parens + (if (-11 : Int) = -11 then 1 else 0) := by simp
                 rw [h8]; exact eE)
              | (have h9 : (1 : Int) - 1 = 1 := by omega
                 rw [h9]; exact eP (by omega))
              | (have h9 : (1 : Int) - 1 = 1 := by omega
                 rw [h9]; have h8 : parens = parens - 1 := by omega
                 rw [h8]; exact eE)
              | (have h9 : (1 : Int) - 1 = 0 := by omega
                 rw [h9]; exact eE)
          have eT : TEp t c t57 (parens) (nots) (1) := by
            first
              | exact eY
              | exact eY _ hno
              | exact eY.go (by omega) _ hno
              | omega
          exact ih1 _ parens nots 1 (some sg) t57 ok57 fr57 eB (by omega) (by omega) (by omega) (by omega) (by omega) (by omega) (by omega) (by omega) (by omega) (by omega) (by omega) (by omega) (by omega) eT (by omega) (by omega)
        refine w_iload rfl ?_
        refine w_callS1I rfl (e_X9_rank ok1 (by omega) (by omega)) ?_
        rintro z58 t58 ⟨rfl, hp58_0, hp58_1, hp58_2⟩
        have er2 := hp58_2
        refine w_push kc_3 ?_
        refine w_cle (by omega) (fun h59 => ?_) (fun h59 => ?_)
        · skip
          refine w_step rfl ?_
          refine w_push kc_0 ?_
          refine w_goto ?_
          refine w_step rfl ?_
          refine w_iast (i := (parens).toNat) (ai_80 _) (nar_bool (by omega)) (by omega) (by omega) (ae_80 _) ok1 (by omega) (fun t60 ht60 ok60 => ?_)
          have kf60_68_9 : tI t60 68 9 = tI t1 68 9 := by rw [ht60]; rfl
          have kf60_68_10 : tI t60 68 10 = tI t1 68 10 := by rw [ht60]; rfl
          have kf60_68_11 : tI t60 68 11 = tI t1 68 11 := by rw [ht60]; rfl
          have kf60_68_12 : tI t60 68 12 = tI t1 68 12 := by rw [ht60]; rfl
          have kf60_68_13 : tI t60 68 13 = tI t1 68 13 := by rw [ht60]; rfl
          have kf60_68_14 : tI t60 68 14 = tI t1 68 14 := by rw [ht60]; rfl
          have kf60_68_19 : tI t60 68 19 = tI t1 68 19 := by rw [ht60]; rfl
          have kf60_68_20 : tI t60 68 20 = tI t1 68 20 := by rw [ht60]; rfl
          have kf60_68_22 : tI t60 68 22 = tI t1 68 22 := by rw [ht60]; rfl
          have fr60 := fr1.uA ht60 (by simp)
          have eE := (show EN t1 1 parens from e1).uAo ht60 (by decide) (by decide)
          have c1 := cr.uA ht60 (by decide)
          have eV : (0 : Int) = (if rkF sg = 3 ∨ (3 < rkF sg ∧ ¬ tA t1 80 parens.toNat = 0) then 1 else 0) := by
            first
              | rw [if_pos (Or.inl (by rw [← er]; assumption))]
              | rw [if_pos (Or.inr ⟨by rw [← er2]; omega, by rw [← et]; assumption⟩)]
              | rw [if_neg (fun h9 => h9.elim (fun h8 => by rw [← er] at h8; contradiction) (fun h8 => by have h7 := h8.1; rw [← er2] at h7; omega))]
              | rw [if_neg (fun h9 => h9.elim (fun h8 => by rw [← er] at h8; contradiction) (fun h8 => by have h7 := h8.2; rw [← et] at h7; contradiction))]
              | omega
          have sT : tA t60 80 = upF (tA t1 80) parens.toNat (if rkF sg = 3 ∨ (3 < rkF sg ∧ ¬ tA t1 80 parens.toNat = 0) then 1 else 0) := by
            funext i
            rw [ht60, tA_uA, ← eV]
            show _ = (if i = parens.toNat then _ else _)
            by_cases h9 : i = parens.toNat
            · rw [if_pos ⟨rfl, h9⟩, if_pos h9]
            · rw [if_neg (fun h8 => h9 h8.2), if_neg h9]
          have s1 : stR t60 = stR t1 := st_same (by rw [ht60]; rfl) (fun i => by rw [ht60, tA_uA, if_neg (by omega)])
          have s2 : coR t60 = coR t1 := co_same (by rw [ht60]; rfl) (fun i => by rw [ht60, tA_uA, if_neg (by omega)])
          refine w_aload rfl ?_
          refine w_iload rfl ?_
          refine w_callS1I rfl (e_X9_rank ok60 (by omega) (by omega)) ?_
          rintro z61 t61 ⟨rfl, hp61_0, hp61_1, hp61_2⟩
          have er4 := hp61_2
          have hb5 : True := trivial
          refine w_callV1V (oj_68 _).choose_spec rfl (e_X9_settle ok60 eE.1 (by omega) (by omega) (by omega)) ?_
          rintro t62 ⟨ok62, fq62, hp62_0, hp62_1, hp62_2, hp62_3, hp62_4, hp62_5⟩
          have fr62 := fr60.then fq62 (by simp)
          have kf62_68_9 : tI t62 68 9 = tI t60 68 9 := fq62.1 68 9 (by simp)
          have kf62_68_10 : tI t62 68 10 = tI t60 68 10 := fq62.1 68 10 (by simp)
          have kf62_68_11 : tI t62 68 11 = tI t60 68 11 := fq62.1 68 11 (by simp)
          have kf62_68_12 : tI t62 68 12 = tI t60 68 12 := fq62.1 68 12 (by simp)
          have kf62_68_13 : tI t62 68 13 = tI t60 68 13 := fq62.1 68 13 (by simp)
          have kf62_68_14 : tI t62 68 14 = tI t60 68 14 := fq62.1 68 14 (by simp)
          have kf62_68_20 : tI t62 68 20 = tI t60 68 20 := fq62.1 68 20 (by simp)
          have eE := eE.st fq62 (by simp) hp62_0 hp62_4
          have rS := (ok62.f fe_68_22).1
          have s3 := se_t hp62_5 s1 s2
          rw [er4] at s3
          have c1 := c1.fr fq62 (by simp) (by simp) (by simp) (by simp) (by simp) (by simp)
          have sT := (show tA t62 80 = tA t60 80 from funext (fq62.2.1 80 (by simp))).trans sT
          refine w_aload rfl ?_
          refine w_getR (g_68_21 _) ?_
          refine w_aload rfl ?_
          refine w_getI (g_68_22 _) fe_68_22 ok62 (fun z63 hz63 hl63 hh63 => ?_)
          refine w_iload rfl ?_
          refine w_iast (i := (z63).toNat) (ai_79 _) rfl (by omega) (by omega) (ae_79 _) ok62 (by omega) (fun t64 ht64 ok64 => ?_)
          have kf64_68_9 : tI t64 68 9 = tI t62 68 9 := by rw [ht64]; rfl
          have kf64_68_10 : tI t64 68 10 = tI t62 68 10 := by rw [ht64]; rfl
          have kf64_68_11 : tI t64 68 11 = tI t62 68 11 := by rw [ht64]; rfl
          have kf64_68_12 : tI t64 68 12 = tI t62 68 12 := by rw [ht64]; rfl
          have kf64_68_13 : tI t64 68 13 = tI t62 68 13 := by rw [ht64]; rfl
          have kf64_68_14 : tI t64 68 14 = tI t62 68 14 := by rw [ht64]; rfl
          have kf64_68_19 : tI t64 68 19 = tI t62 68 19 := by rw [ht64]; rfl
          have kf64_68_20 : tI t64 68 20 = tI t62 68 20 := by rw [ht64]; rfl
          have kf64_68_22 : tI t64 68 22 = tI t62 68 22 := by rw [ht64]; rfl
          have fr64 := fr62.uA ht64 (by simp)
          have p1 := ht64
          have c1 := c1.uA ht64 (by decide)
          refine w_aload rfl ?_
          refine w_dupR ?_
          refine w_getI (g_68_22 _) fe_68_22 ok64 (fun z65 hz65 hl65 hh65 => ?_)
          refine w_push kc_1 ?_
          refine w_add ?_
          refine w_putI (p_68_22 _) fe_68_22 ok64 (by omega) (fun t66 ht66 ok66 => ?_)
          have kf66_68_9 : tI t66 68 9 = tI t64 68 9 := by rw [ht66, tI_uI, if_neg (by decide)]
          have kf66_68_10 : tI t66 68 10 = tI t64 68 10 := by rw [ht66, tI_uI, if_neg (by decide)]
          have kf66_68_11 : tI t66 68 11 = tI t64 68 11 := by rw [ht66, tI_uI, if_neg (by decide)]
          have kf66_68_12 : tI t66 68 12 = tI t64 68 12 := by rw [ht66, tI_uI, if_neg (by decide)]
          have kf66_68_13 : tI t66 68 13 = tI t64 68 13 := by rw [ht66, tI_uI, if_neg (by decide)]
          have kf66_68_14 : tI t66 68 14 = tI t64 68 14 := by rw [ht66, tI_uI, if_neg (by decide)]
          have kf66_68_19 : tI t66 68 19 = tI t64 68 19 := by rw [ht66, tI_uI, if_neg (by decide)]
          have kf66_68_20 : tI t66 68 20 = tI t64 68 20 := by rw [ht66, tI_uI, if_neg (by decide)]
          have kf66_68_22 : tI t66 68 22 = (z65 + 1) := by rw [ht66, tI_uI, if_pos ⟨rfl, rfl⟩]
          have fr66 := fr64.uI ht66 (by simp)
          have p2 := ht66
          have eE : EN t66 0 parens := eE.bin (v := sg) (by omega) (by omega) (by omega) (by omega) (fun i => by rw [p2, tA_uI, p1, tA_uA, if_neg (by omega)]) (fun i => by
            rw [p2, tA_uI, p1, tA_uA]
            by_cases h9 : i = (tI t62 68 22).toNat
            · rw [if_pos (by omega), if_pos h9]
            · rw [if_neg (by omega), if_neg h9])
          have c2 := c1.uI ht66 (by omega)
          have sS : stR t66 = sg :: (stF (rkF sg) (stR t1) (coR t1)).1 := by
            rw [← s3.1]
            exact st_push (by omega) (by omega) (fun i => by
              rw [p2, tA_uI, p1, tA_uA]
              by_cases h9 : i = (tI t62 68 22).toNat
              · rw [if_pos (by omega), if_pos h9]
              · rw [if_neg (by omega), if_neg h9])
          have sO : coR t66 = (stF (rkF sg) (stR t1) (coR t1)).2 := by
            rw [← s3.2]
            exact co_same (by omega) (fun i => by rw [p2, tA_uI, p1, tA_uA, if_neg (by omega)])
          have sT := (show tA t66 80 = tA t62 80 by funext i; rw [p2, tA_uI, p1, tA_uA, if_neg (by omega)]).trans sT
          refine w_push kc_1 ?_
          refine w_istore (lv' := [some (.ref 68), some (.int (jI parens)), some (.int (jI nots)), some (.int (jI 1)), some (.int (jI sg))]) rfl ?_
          refine w_aload rfl ?_
          refine w_callV0V (oj_68 _).choose_spec rfl (e_X9_go ok66 (by omega) (c2.go wc (tk_ne wc (by omega)))) ?_
          rintro t67 ⟨ok67, fq67, hp67_0, hp67_1, hp67_2, hp67_3, hp67_4, hp67_5⟩
          have fr67 := fr66.then fq67 (by simp)
          have kf67_68_9 : tI t67 68 9 = tI t66 68 9 := fq67.1 68 9 (by simp)
          have kf67_68_19 : tI t67 68 19 = tI t66 68 19 := fq67.1 68 19 (by simp)
          have kf67_68_20 : tI t67 68 20 = tI t66 68 20 := fq67.1 68 20 (by simp)
          have kf67_68_22 : tI t67 68 22 = tI t66 68 22 := fq67.1 68 22 (by simp)
          have eE := eE.fr fq67 (by simp) (by simp) (by simp) (by simp)
          have cG : CRx t67 (stC (tA t 75) (tI t 68 9) cc) := by
            have h9 := hp67_5
            rw [show tA t66 75 = tA t 75 from funext (fr66.2.1 75 (by simp)), show tI t66 68 9 = tI t 68 9 by omega] at h9
            exact h9
          have sS := (st_same (u := t66) (v := t67) (fq67.1 68 22 (by simp)) (fq67.2.1 79 (by simp))).trans sS
          have sO := (co_same (u := t66) (v := t67) (fq67.1 68 19 (by simp)) (fq67.2.1 78 (by simp))).trans sO
          have sT := (show tA t67 80 = tA t66 80 from funext (fq67.2.1 80 (by simp))).trans sT
          have eY : TEp t c t67 parens nots 1 := te_s2 hT0 wc rc (sy_sg (by omega) ht9 (fun h9 => i8_0 ⟨((si_u gr cr wc (x := 41) (by decide)).mp h9.1).1, ((si_u gr cr wc (x := 41) (by decide)).mp h9.1).2, h9.2⟩) i10_2 (fun h9 => h9.elim (fun h8 => by omega) (fun h8 => i10_3 h8))) rfl rfl rfl cG sS sO (by omega) sT
          refine w_goto ?_
          have eB : EN t67 (1 - 1) (parens) := by
            first
              | (have h9 : (1 : Int) - 1 = 0 := by omega
                 rw [h9]; have h8 : parens = parens + (if (-10 : Int) = -11 then 1 else 0) := by simp
                 rw [h8]; exact eE)
              | (have h9 : (1 : Int) - 1 = 0 := by omega
                 rw [h9]; have h8 : parens = parens + (if (-11 : Int) = -11 then 1 else 0) := by simp
                 rw [h8]; exact eE)
              | (have h9 : (1 : Int) - 1 = 1 := by omega
                 rw [h9]; exact eP (by omega))
              | (have h9 : (1 : Int) - 1 = 1 := by omega
                 rw [h9]; have h8 : parens = parens - 1 := by omega
                 rw [h8]; exact eE)
              | (have h9 : (1 : Int) - 1 = 0 := by omega
                 rw [h9]; exact eE)
          have eT : TEp t c t67 (parens) (nots) (1) := by
            first
              | exact eY
              | exact eY _ hno
              | exact eY.go (by omega) _ hno
              | omega
          exact ih1 _ parens nots 1 (some sg) t67 ok67 fr67 eB (by omega) (by omega) (by omega) (by omega) (by omega) (by omega) (by omega) (by omega) (by omega) (by omega) (by omega) (by omega) (by omega) eT (by omega) (by omega)
        refine w_aload rfl ?_
        refine w_getR (g_68_23 _) ?_
        refine w_iload rfl ?_
        refine w_iald (i := (parens).toNat) (ai_80 _) (by omega) (by omega) (ae_80 _) ok1 (fun z68 hz68 hl68 hh68 => ?_)
        have et := hz68
        refine w_ieq (by omega) (fun h69 => ?_) (fun h69 => ?_)
        · skip
          refine w_step rfl ?_
          refine w_push kc_0 ?_
          refine w_goto ?_
          refine w_step rfl ?_
          refine w_iast (i := (parens).toNat) (ai_80 _) (nar_bool (by omega)) (by omega) (by omega) (ae_80 _) ok1 (by omega) (fun t70 ht70 ok70 => ?_)
          have kf70_68_9 : tI t70 68 9 = tI t1 68 9 := by rw [ht70]; rfl
          have kf70_68_10 : tI t70 68 10 = tI t1 68 10 := by rw [ht70]; rfl
          have kf70_68_11 : tI t70 68 11 = tI t1 68 11 := by rw [ht70]; rfl
          have kf70_68_12 : tI t70 68 12 = tI t1 68 12 := by rw [ht70]; rfl
          have kf70_68_13 : tI t70 68 13 = tI t1 68 13 := by rw [ht70]; rfl
          have kf70_68_14 : tI t70 68 14 = tI t1 68 14 := by rw [ht70]; rfl
          have kf70_68_19 : tI t70 68 19 = tI t1 68 19 := by rw [ht70]; rfl
          have kf70_68_20 : tI t70 68 20 = tI t1 68 20 := by rw [ht70]; rfl
          have kf70_68_22 : tI t70 68 22 = tI t1 68 22 := by rw [ht70]; rfl
          have fr70 := fr1.uA ht70 (by simp)
          have eE := (show EN t1 1 parens from e1).uAo ht70 (by decide) (by decide)
          have c1 := cr.uA ht70 (by decide)
          have eV : (0 : Int) = (if rkF sg = 3 ∨ (3 < rkF sg ∧ ¬ tA t1 80 parens.toNat = 0) then 1 else 0) := by
            first
              | rw [if_pos (Or.inl (by rw [← er]; assumption))]
              | rw [if_pos (Or.inr ⟨by rw [← er2]; omega, by rw [← et]; assumption⟩)]
              | rw [if_neg (fun h9 => h9.elim (fun h8 => by rw [← er] at h8; contradiction) (fun h8 => by have h7 := h8.1; rw [← er2] at h7; omega))]
              | rw [if_neg (fun h9 => h9.elim (fun h8 => by rw [← er] at h8; contradiction) (fun h8 => by have h7 := h8.2; rw [← et] at h7; contradiction))]
              | omega
          have sT : tA t70 80 = upF (tA t1 80) parens.toNat (if rkF sg = 3 ∨ (3 < rkF sg ∧ ¬ tA t1 80 parens.toNat = 0) then 1 else 0) := by
            funext i
            rw [ht70, tA_uA, ← eV]
            show _ = (if i = parens.toNat then _ else _)
            by_cases h9 : i = parens.toNat
            · rw [if_pos ⟨rfl, h9⟩, if_pos h9]
            · rw [if_neg (fun h8 => h9 h8.2), if_neg h9]
          have s1 : stR t70 = stR t1 := st_same (by rw [ht70]; rfl) (fun i => by rw [ht70, tA_uA, if_neg (by omega)])
          have s2 : coR t70 = coR t1 := co_same (by rw [ht70]; rfl) (fun i => by rw [ht70, tA_uA, if_neg (by omega)])
          refine w_aload rfl ?_
          refine w_iload rfl ?_
          refine w_callS1I rfl (e_X9_rank ok70 (by omega) (by omega)) ?_
          rintro z71 t71 ⟨rfl, hp71_0, hp71_1, hp71_2⟩
          have er4 := hp71_2
          have hb5 : True := trivial
          refine w_callV1V (oj_68 _).choose_spec rfl (e_X9_settle ok70 eE.1 (by omega) (by omega) (by omega)) ?_
          rintro t72 ⟨ok72, fq72, hp72_0, hp72_1, hp72_2, hp72_3, hp72_4, hp72_5⟩
          have fr72 := fr70.then fq72 (by simp)
          have kf72_68_9 : tI t72 68 9 = tI t70 68 9 := fq72.1 68 9 (by simp)
          have kf72_68_10 : tI t72 68 10 = tI t70 68 10 := fq72.1 68 10 (by simp)
          have kf72_68_11 : tI t72 68 11 = tI t70 68 11 := fq72.1 68 11 (by simp)
          have kf72_68_12 : tI t72 68 12 = tI t70 68 12 := fq72.1 68 12 (by simp)
          have kf72_68_13 : tI t72 68 13 = tI t70 68 13 := fq72.1 68 13 (by simp)
          have kf72_68_14 : tI t72 68 14 = tI t70 68 14 := fq72.1 68 14 (by simp)
          have kf72_68_20 : tI t72 68 20 = tI t70 68 20 := fq72.1 68 20 (by simp)
          have eE := eE.st fq72 (by simp) hp72_0 hp72_4
          have rS := (ok72.f fe_68_22).1
          have s3 := se_t hp72_5 s1 s2
          rw [er4] at s3
          have c1 := c1.fr fq72 (by simp) (by simp) (by simp) (by simp) (by simp) (by simp)
          have sT := (show tA t72 80 = tA t70 80 from funext (fq72.2.1 80 (by simp))).trans sT
          refine w_aload rfl ?_
          refine w_getR (g_68_21 _) ?_
          refine w_aload rfl ?_
          refine w_getI (g_68_22 _) fe_68_22 ok72 (fun z73 hz73 hl73 hh73 => ?_)
          refine w_iload rfl ?_
          refine w_iast (i := (z73).toNat) (ai_79 _) rfl (by omega) (by omega) (ae_79 _) ok72 (by omega) (fun t74 ht74 ok74 => ?_)
          have kf74_68_9 : tI t74 68 9 = tI t72 68 9 := by rw [ht74]; rfl
          have kf74_68_10 : tI t74 68 10 = tI t72 68 10 := by rw [ht74]; rfl
          have kf74_68_11 : tI t74 68 11 = tI t72 68 11 := by rw [ht74]; rfl
          have kf74_68_12 : tI t74 68 12 = tI t72 68 12 := by rw [ht74]; rfl
          have kf74_68_13 : tI t74 68 13 = tI t72 68 13 := by rw [ht74]; rfl
          have kf74_68_14 : tI t74 68 14 = tI t72 68 14 := by rw [ht74]; rfl
          have kf74_68_19 : tI t74 68 19 = tI t72 68 19 := by rw [ht74]; rfl
          have kf74_68_20 : tI t74 68 20 = tI t72 68 20 := by rw [ht74]; rfl
          have kf74_68_22 : tI t74 68 22 = tI t72 68 22 := by rw [ht74]; rfl
          have fr74 := fr72.uA ht74 (by simp)
          have p1 := ht74
          have c1 := c1.uA ht74 (by decide)
          refine w_aload rfl ?_
          refine w_dupR ?_
          refine w_getI (g_68_22 _) fe_68_22 ok74 (fun z75 hz75 hl75 hh75 => ?_)
          refine w_push kc_1 ?_
          refine w_add ?_
          refine w_putI (p_68_22 _) fe_68_22 ok74 (by omega) (fun t76 ht76 ok76 => ?_)
          have kf76_68_9 : tI t76 68 9 = tI t74 68 9 := by rw [ht76, tI_uI, if_neg (by decide)]
          have kf76_68_10 : tI t76 68 10 = tI t74 68 10 := by rw [ht76, tI_uI, if_neg (by decide)]
          have kf76_68_11 : tI t76 68 11 = tI t74 68 11 := by rw [ht76, tI_uI, if_neg (by decide)]
          have kf76_68_12 : tI t76 68 12 = tI t74 68 12 := by rw [ht76, tI_uI, if_neg (by decide)]
          have kf76_68_13 : tI t76 68 13 = tI t74 68 13 := by rw [ht76, tI_uI, if_neg (by decide)]
          have kf76_68_14 : tI t76 68 14 = tI t74 68 14 := by rw [ht76, tI_uI, if_neg (by decide)]
          have kf76_68_19 : tI t76 68 19 = tI t74 68 19 := by rw [ht76, tI_uI, if_neg (by decide)]
          have kf76_68_20 : tI t76 68 20 = tI t74 68 20 := by rw [ht76, tI_uI, if_neg (by decide)]
          have kf76_68_22 : tI t76 68 22 = (z75 + 1) := by rw [ht76, tI_uI, if_pos ⟨rfl, rfl⟩]
          have fr76 := fr74.uI ht76 (by simp)
          have p2 := ht76
          have eE : EN t76 0 parens := eE.bin (v := sg) (by omega) (by omega) (by omega) (by omega) (fun i => by rw [p2, tA_uI, p1, tA_uA, if_neg (by omega)]) (fun i => by
            rw [p2, tA_uI, p1, tA_uA]
            by_cases h9 : i = (tI t72 68 22).toNat
            · rw [if_pos (by omega), if_pos h9]
            · rw [if_neg (by omega), if_neg h9])
          have c2 := c1.uI ht76 (by omega)
          have sS : stR t76 = sg :: (stF (rkF sg) (stR t1) (coR t1)).1 := by
            rw [← s3.1]
            exact st_push (by omega) (by omega) (fun i => by
              rw [p2, tA_uI, p1, tA_uA]
              by_cases h9 : i = (tI t72 68 22).toNat
              · rw [if_pos (by omega), if_pos h9]
              · rw [if_neg (by omega), if_neg h9])
          have sO : coR t76 = (stF (rkF sg) (stR t1) (coR t1)).2 := by
            rw [← s3.2]
            exact co_same (by omega) (fun i => by rw [p2, tA_uI, p1, tA_uA, if_neg (by omega)])
          have sT := (show tA t76 80 = tA t72 80 by funext i; rw [p2, tA_uI, p1, tA_uA, if_neg (by omega)]).trans sT
          refine w_push kc_1 ?_
          refine w_istore (lv' := [some (.ref 68), some (.int (jI parens)), some (.int (jI nots)), some (.int (jI 1)), some (.int (jI sg))]) rfl ?_
          refine w_aload rfl ?_
          refine w_callV0V (oj_68 _).choose_spec rfl (e_X9_go ok76 (by omega) (c2.go wc (tk_ne wc (by omega)))) ?_
          rintro t77 ⟨ok77, fq77, hp77_0, hp77_1, hp77_2, hp77_3, hp77_4, hp77_5⟩
          have fr77 := fr76.then fq77 (by simp)
          have kf77_68_9 : tI t77 68 9 = tI t76 68 9 := fq77.1 68 9 (by simp)
          have kf77_68_19 : tI t77 68 19 = tI t76 68 19 := fq77.1 68 19 (by simp)
          have kf77_68_20 : tI t77 68 20 = tI t76 68 20 := fq77.1 68 20 (by simp)
          have kf77_68_22 : tI t77 68 22 = tI t76 68 22 := fq77.1 68 22 (by simp)
          have eE := eE.fr fq77 (by simp) (by simp) (by simp) (by simp)
          have cG : CRx t77 (stC (tA t 75) (tI t 68 9) cc) := by
            have h9 := hp77_5
            rw [show tA t76 75 = tA t 75 from funext (fr76.2.1 75 (by simp)), show tI t76 68 9 = tI t 68 9 by omega] at h9
            exact h9
          have sS := (st_same (u := t76) (v := t77) (fq77.1 68 22 (by simp)) (fq77.2.1 79 (by simp))).trans sS
          have sO := (co_same (u := t76) (v := t77) (fq77.1 68 19 (by simp)) (fq77.2.1 78 (by simp))).trans sO
          have sT := (show tA t77 80 = tA t76 80 from funext (fq77.2.1 80 (by simp))).trans sT
          have eY : TEp t c t77 parens nots 1 := te_s2 hT0 wc rc (sy_sg (by omega) ht9 (fun h9 => i8_0 ⟨((si_u gr cr wc (x := 41) (by decide)).mp h9.1).1, ((si_u gr cr wc (x := 41) (by decide)).mp h9.1).2, h9.2⟩) i10_2 (fun h9 => h9.elim (fun h8 => by omega) (fun h8 => i10_3 h8))) rfl rfl rfl cG sS sO (by omega) sT
          refine w_goto ?_
          have eB : EN t77 (1 - 1) (parens) := by
            first
              | (have h9 : (1 : Int) - 1 = 0 := by omega
                 rw [h9]; have h8 : parens = parens + (if (-10 : Int) = -11 then 1 else 0) := by simp
                 rw [h8]; exact eE)
              | (have h9 : (1 : Int) - 1 = 0 := by omega
                 rw [h9]; have h8 : parens = parens + (if (-11 : Int) = -11 then 1 else 0) := by simp
                 rw [h8]; exact eE)
              | (have h9 : (1 : Int) - 1 = 1 := by omega
                 rw [h9]; exact eP (by omega))
              | (have h9 : (1 : Int) - 1 = 1 := by omega
                 rw [h9]; have h8 : parens = parens - 1 := by omega
                 rw [h8]; exact eE)
              | (have h9 : (1 : Int) - 1 = 0 := by omega
                 rw [h9]; exact eE)
          have eT : TEp t c t77 (parens) (nots) (1) := by
            first
              | exact eY
              | exact eY _ hno
              | exact eY.go (by omega) _ hno
              | omega
          exact ih1 _ parens nots 1 (some sg) t77 ok77 fr77 eB (by omega) (by omega) (by omega) (by omega) (by omega) (by omega) (by omega) (by omega) (by omega) (by omega) (by omega) (by omega) (by omega) eT (by omega) (by omega)
        refine w_goto ?_
        refine w_step rfl ?_
        refine w_push kc_1 ?_
        refine w_goto ?_
        refine w_step rfl ?_
        refine w_iast (i := (parens).toNat) (ai_80 _) (nar_bool (by omega)) (by omega) (by omega) (ae_80 _) ok1 (by omega) (fun t78 ht78 ok78 => ?_)
        have kf78_68_9 : tI t78 68 9 = tI t1 68 9 := by rw [ht78]; rfl
        have kf78_68_10 : tI t78 68 10 = tI t1 68 10 := by rw [ht78]; rfl
        have kf78_68_11 : tI t78 68 11 = tI t1 68 11 := by rw [ht78]; rfl
        have kf78_68_12 : tI t78 68 12 = tI t1 68 12 := by rw [ht78]; rfl
        have kf78_68_13 : tI t78 68 13 = tI t1 68 13 := by rw [ht78]; rfl
        have kf78_68_14 : tI t78 68 14 = tI t1 68 14 := by rw [ht78]; rfl
        have kf78_68_19 : tI t78 68 19 = tI t1 68 19 := by rw [ht78]; rfl
        have kf78_68_20 : tI t78 68 20 = tI t1 68 20 := by rw [ht78]; rfl
        have kf78_68_22 : tI t78 68 22 = tI t1 68 22 := by rw [ht78]; rfl
        have fr78 := fr1.uA ht78 (by simp)
        have eE := (show EN t1 1 parens from e1).uAo ht78 (by decide) (by decide)
        have c1 := cr.uA ht78 (by decide)
        have eV : (1 : Int) = (if rkF sg = 3 ∨ (3 < rkF sg ∧ ¬ tA t1 80 parens.toNat = 0) then 1 else 0) := by
          first
            | rw [if_pos (Or.inl (by rw [← er]; assumption))]
            | rw [if_pos (Or.inr ⟨by rw [← er2]; omega, by rw [← et]; assumption⟩)]
            | rw [if_neg (fun h9 => h9.elim (fun h8 => by rw [← er] at h8; contradiction) (fun h8 => by have h7 := h8.1; rw [← er2] at h7; omega))]
            | rw [if_neg (fun h9 => h9.elim (fun h8 => by rw [← er] at h8; contradiction) (fun h8 => by have h7 := h8.2; rw [← et] at h7; contradiction))]
            | omega
        have sT : tA t78 80 = upF (tA t1 80) parens.toNat (if rkF sg = 3 ∨ (3 < rkF sg ∧ ¬ tA t1 80 parens.toNat = 0) then 1 else 0) := by
          funext i
          rw [ht78, tA_uA, ← eV]
          show _ = (if i = parens.toNat then _ else _)
          by_cases h9 : i = parens.toNat
          · rw [if_pos ⟨rfl, h9⟩, if_pos h9]
          · rw [if_neg (fun h8 => h9 h8.2), if_neg h9]
        have s1 : stR t78 = stR t1 := st_same (by rw [ht78]; rfl) (fun i => by rw [ht78, tA_uA, if_neg (by omega)])
        have s2 : coR t78 = coR t1 := co_same (by rw [ht78]; rfl) (fun i => by rw [ht78, tA_uA, if_neg (by omega)])
        refine w_aload rfl ?_
        refine w_iload rfl ?_
        refine w_callS1I rfl (e_X9_rank ok78 (by omega) (by omega)) ?_
        rintro z79 t79 ⟨rfl, hp79_0, hp79_1, hp79_2⟩
        have er4 := hp79_2
        have hb5 : True := trivial
        refine w_callV1V (oj_68 _).choose_spec rfl (e_X9_settle ok78 eE.1 (by omega) (by omega) (by omega)) ?_
        rintro t80 ⟨ok80, fq80, hp80_0, hp80_1, hp80_2, hp80_3, hp80_4, hp80_5⟩
        have fr80 := fr78.then fq80 (by simp)
        have kf80_68_9 : tI t80 68 9 = tI t78 68 9 := fq80.1 68 9 (by simp)
        have kf80_68_10 : tI t80 68 10 = tI t78 68 10 := fq80.1 68 10 (by simp)
        have kf80_68_11 : tI t80 68 11 = tI t78 68 11 := fq80.1 68 11 (by simp)
        have kf80_68_12 : tI t80 68 12 = tI t78 68 12 := fq80.1 68 12 (by simp)
        have kf80_68_13 : tI t80 68 13 = tI t78 68 13 := fq80.1 68 13 (by simp)
        have kf80_68_14 : tI t80 68 14 = tI t78 68 14 := fq80.1 68 14 (by simp)
        have kf80_68_20 : tI t80 68 20 = tI t78 68 20 := fq80.1 68 20 (by simp)
        have eE := eE.st fq80 (by simp) hp80_0 hp80_4
        have rS := (ok80.f fe_68_22).1
        have s3 := se_t hp80_5 s1 s2
        rw [er4] at s3
        have c1 := c1.fr fq80 (by simp) (by simp) (by simp) (by simp) (by simp) (by simp)
        have sT := (show tA t80 80 = tA t78 80 from funext (fq80.2.1 80 (by simp))).trans sT
        refine w_aload rfl ?_
        refine w_getR (g_68_21 _) ?_
        refine w_aload rfl ?_
        refine w_getI (g_68_22 _) fe_68_22 ok80 (fun z81 hz81 hl81 hh81 => ?_)
        refine w_iload rfl ?_
        refine w_iast (i := (z81).toNat) (ai_79 _) rfl (by omega) (by omega) (ae_79 _) ok80 (by omega) (fun t82 ht82 ok82 => ?_)
        have kf82_68_9 : tI t82 68 9 = tI t80 68 9 := by rw [ht82]; rfl
        have kf82_68_10 : tI t82 68 10 = tI t80 68 10 := by rw [ht82]; rfl
        have kf82_68_11 : tI t82 68 11 = tI t80 68 11 := by rw [ht82]; rfl
        have kf82_68_12 : tI t82 68 12 = tI t80 68 12 := by rw [ht82]; rfl
        have kf82_68_13 : tI t82 68 13 = tI t80 68 13 := by rw [ht82]; rfl
        have kf82_68_14 : tI t82 68 14 = tI t80 68 14 := by rw [ht82]; rfl
        have kf82_68_19 : tI t82 68 19 = tI t80 68 19 := by rw [ht82]; rfl
        have kf82_68_20 : tI t82 68 20 = tI t80 68 20 := by rw [ht82]; rfl
        have kf82_68_22 : tI t82 68 22 = tI t80 68 22 := by rw [ht82]; rfl
        have fr82 := fr80.uA ht82 (by simp)
        have p1 := ht82
        have c1 := c1.uA ht82 (by decide)
        refine w_aload rfl ?_
        refine w_dupR ?_
        refine w_getI (g_68_22 _) fe_68_22 ok82 (fun z83 hz83 hl83 hh83 => ?_)
        refine w_push kc_1 ?_
        refine w_add ?_
        refine w_putI (p_68_22 _) fe_68_22 ok82 (by omega) (fun t84 ht84 ok84 => ?_)
        have kf84_68_9 : tI t84 68 9 = tI t82 68 9 := by rw [ht84, tI_uI, if_neg (by decide)]
        have kf84_68_10 : tI t84 68 10 = tI t82 68 10 := by rw [ht84, tI_uI, if_neg (by decide)]
        have kf84_68_11 : tI t84 68 11 = tI t82 68 11 := by rw [ht84, tI_uI, if_neg (by decide)]
        have kf84_68_12 : tI t84 68 12 = tI t82 68 12 := by rw [ht84, tI_uI, if_neg (by decide)]
        have kf84_68_13 : tI t84 68 13 = tI t82 68 13 := by rw [ht84, tI_uI, if_neg (by decide)]
        have kf84_68_14 : tI t84 68 14 = tI t82 68 14 := by rw [ht84, tI_uI, if_neg (by decide)]
        have kf84_68_19 : tI t84 68 19 = tI t82 68 19 := by rw [ht84, tI_uI, if_neg (by decide)]
        have kf84_68_20 : tI t84 68 20 = tI t82 68 20 := by rw [ht84, tI_uI, if_neg (by decide)]
        have kf84_68_22 : tI t84 68 22 = (z83 + 1) := by rw [ht84, tI_uI, if_pos ⟨rfl, rfl⟩]
        have fr84 := fr82.uI ht84 (by simp)
        have p2 := ht84
        have eE : EN t84 0 parens := eE.bin (v := sg) (by omega) (by omega) (by omega) (by omega) (fun i => by rw [p2, tA_uI, p1, tA_uA, if_neg (by omega)]) (fun i => by
          rw [p2, tA_uI, p1, tA_uA]
          by_cases h9 : i = (tI t80 68 22).toNat
          · rw [if_pos (by omega), if_pos h9]
          · rw [if_neg (by omega), if_neg h9])
        have c2 := c1.uI ht84 (by omega)
        have sS : stR t84 = sg :: (stF (rkF sg) (stR t1) (coR t1)).1 := by
          rw [← s3.1]
          exact st_push (by omega) (by omega) (fun i => by
            rw [p2, tA_uI, p1, tA_uA]
            by_cases h9 : i = (tI t80 68 22).toNat
            · rw [if_pos (by omega), if_pos h9]
            · rw [if_neg (by omega), if_neg h9])
        have sO : coR t84 = (stF (rkF sg) (stR t1) (coR t1)).2 := by
          rw [← s3.2]
          exact co_same (by omega) (fun i => by rw [p2, tA_uI, p1, tA_uA, if_neg (by omega)])
        have sT := (show tA t84 80 = tA t80 80 by funext i; rw [p2, tA_uI, p1, tA_uA, if_neg (by omega)]).trans sT
        refine w_push kc_1 ?_
        refine w_istore (lv' := [some (.ref 68), some (.int (jI parens)), some (.int (jI nots)), some (.int (jI 1)), some (.int (jI sg))]) rfl ?_
        refine w_aload rfl ?_
        refine w_callV0V (oj_68 _).choose_spec rfl (e_X9_go ok84 (by omega) (c2.go wc (tk_ne wc (by omega)))) ?_
        rintro t85 ⟨ok85, fq85, hp85_0, hp85_1, hp85_2, hp85_3, hp85_4, hp85_5⟩
        have fr85 := fr84.then fq85 (by simp)
        have kf85_68_9 : tI t85 68 9 = tI t84 68 9 := fq85.1 68 9 (by simp)
        have kf85_68_19 : tI t85 68 19 = tI t84 68 19 := fq85.1 68 19 (by simp)
        have kf85_68_20 : tI t85 68 20 = tI t84 68 20 := fq85.1 68 20 (by simp)
        have kf85_68_22 : tI t85 68 22 = tI t84 68 22 := fq85.1 68 22 (by simp)
        have eE := eE.fr fq85 (by simp) (by simp) (by simp) (by simp)
        have cG : CRx t85 (stC (tA t 75) (tI t 68 9) cc) := by
          have h9 := hp85_5
          rw [show tA t84 75 = tA t 75 from funext (fr84.2.1 75 (by simp)), show tI t84 68 9 = tI t 68 9 by omega] at h9
          exact h9
        have sS := (st_same (u := t84) (v := t85) (fq85.1 68 22 (by simp)) (fq85.2.1 79 (by simp))).trans sS
        have sO := (co_same (u := t84) (v := t85) (fq85.1 68 19 (by simp)) (fq85.2.1 78 (by simp))).trans sO
        have sT := (show tA t85 80 = tA t84 80 from funext (fq85.2.1 80 (by simp))).trans sT
        have eY : TEp t c t85 parens nots 1 := te_s2 hT0 wc rc (sy_sg (by omega) ht9 (fun h9 => i8_0 ⟨((si_u gr cr wc (x := 41) (by decide)).mp h9.1).1, ((si_u gr cr wc (x := 41) (by decide)).mp h9.1).2, h9.2⟩) i10_2 (fun h9 => h9.elim (fun h8 => by omega) (fun h8 => i10_3 h8))) rfl rfl rfl cG sS sO (by omega) sT
        refine w_goto ?_
        have eB : EN t85 (1 - 1) (parens) := by
          first
            | (have h9 : (1 : Int) - 1 = 0 := by omega
               rw [h9]; have h8 : parens = parens + (if (-10 : Int) = -11 then 1 else 0) := by simp
               rw [h8]; exact eE)
            | (have h9 : (1 : Int) - 1 = 0 := by omega
               rw [h9]; have h8 : parens = parens + (if (-11 : Int) = -11 then 1 else 0) := by simp
               rw [h8]; exact eE)
            | (have h9 : (1 : Int) - 1 = 1 := by omega
               rw [h9]; exact eP (by omega))
            | (have h9 : (1 : Int) - 1 = 1 := by omega
               rw [h9]; have h8 : parens = parens - 1 := by omega
               rw [h8]; exact eE)
            | (have h9 : (1 : Int) - 1 = 0 := by omega
               rw [h9]; exact eE)
        have eT : TEp t c t85 (parens) (nots) (1) := by
          first
            | exact eY
            | exact eY _ hno
            | exact eY.go (by omega) _ hno
            | omega
        exact ih1 _ parens nots 1 (some sg) t85 ok85 fr85 eB (by omega) (by omega) (by omega) (by omega) (by omega) (by omega) (by omega) (by omega) (by omega) (by omega) (by omega) (by omega) (by omega) eT (by omega) (by omega)
      refine w_step rfl ?_
      refine w_aload rfl ?_
      refine w_callV0I (oj_68 _).choose_spec rfl (e_X9_signHere ok1 cr (by rw [gr.2.1]; exact wc)) ?_
      rintro z86 t86 ⟨rfl, hp86_0, hp86_1, hp86_2⟩
      have eg : z86 = sgF (siF (tA t 75) (tI t 68 9) cc) := by rw [hp86_2, gr.1, gr.2.1]
      have eZ8 : ImpP (z86 = 0) (TFp t c 0 t1) := fun h9 => tf_0 hT0 rc (sy_sb (by omega) ht9 (fun h9 => i8_0 ⟨((si_u gr cr wc (x := 41) (by decide)).mp h9.1).1, ((si_u gr cr wc (x := 41) (by decide)).mp h9.1).2, h9.2⟩) (Or.inl (eg.symm.trans h9))) tc.symm rfl
      refine w_istore (lv' := [some (.ref 68), some (.int (jI parens)), some (.int (jI nots)), some (.int (jI wants)), some (.int (jI z86))]) rfl ?_
      refine w_iload rfl ?_
      refine w_ieq (by omega) (fun h87 => ?_) (fun h87 => ?_)
      · skip
        refine w_step rfl ?_
        refine w_push kc_0 ?_
        refine w_retI rfl ?_
        exact ⟨ok1, fr1, (by omega), (by omega), (by first | exact (fun _ => eE.1.1) | (intro h9; exact absurd rfl h9)), (by omega), (by first | exact eZ5.go (by omega) | exact eZ8.go (by omega) | exact eZ13.go (by omega) | exact eZ14.go (by omega) | exact eZ15.go (by omega) | omega)⟩
      refine w_iload rfl ?_
      refine w_callS1I rfl (e_X9_rank ok1 (by omega) (by omega)) ?_
      rintro z88 t88 ⟨rfl, hp88_0, hp88_1, hp88_2⟩
      have er := hp88_2
      refine w_push kc_3 ?_
      refine w_cne (by omega) (fun h89 => ?_) (fun h89 => ?_)
      · skip
        exact key10  _ z86  (by omega) (by omega) eg (by unfold NotP; rintro ⟨h9, h8⟩; first | (rw [← er] at h9; contradiction) | (rw [← et] at h8; contradiction))  (by omega)
      refine w_aload rfl ?_
      refine w_getR (g_68_23 _) ?_
      refine w_iload rfl ?_
      refine w_iald (i := (parens).toNat) (ai_80 _) (by omega) (by omega) (ae_80 _) ok1 (fun z90 hz90 hl90 hh90 => ?_)
      have et := hz90
      have eZ13 : ImpP (¬ z90 = 0) (TFp t c 0 t1) := fun h9 => tf_0 hT0 rc (sy_sb (by omega) ht9 (fun h9 => i8_0 ⟨((si_u gr cr wc (x := 41) (by decide)).mp h9.1).1, ((si_u gr cr wc (x := 41) (by decide)).mp h9.1).2, h9.2⟩) (Or.inr ⟨by rw [← eg, ← er]; omega, by omega⟩)) tc.symm rfl
      refine w_ieq (by omega) (fun h91 => ?_) (fun h91 => ?_)
      · skip
        exact key10  _ z86  (by omega) (by omega) eg (by unfold NotP; rintro ⟨h9, h8⟩; first | (rw [← er] at h9; contradiction) | (rw [← et] at h8; contradiction))  (by omega)
      refine w_goto ?_
      refine w_step rfl ?_
      refine w_push kc_0 ?_
      refine w_retI rfl ?_
      exact ⟨ok1, fr1, (by omega), (by omega), (by first | exact (fun _ => eE.1.1) | (intro h9; exact absurd rfl h9)), (by omega), (by first | exact eZ5.go (by omega) | exact eZ8.go (by omega) | exact eZ13.go (by omega) | exact eZ14.go (by omega) | exact eZ15.go (by omega) | omega)⟩
    refine w_step rfl ?_
    have e1 : EN t1 1 parens := by
      have h9 : 1 - wants = 1 := by omega
      rw [h9] at i1_0
      exact i1_0
    have ht9 : ¬ tkF cc = 0 := fun h9 => by rw [← tk, ← e12] at h9; contradiction
    refine w_aload rfl ?_
    refine w_getI (g_68_12 _) fe_68_12 ok1 (fun z92 hz92 hl92 hh92 => ?_)
    refine w_push kc_3 ?_
    refine w_cne (by omega) (fun h93 => ?_) (fun h93 => ?_)
    · skip
      exact key8  _ o4  (by unfold NotP; omega)  (by omega)
    refine w_aload rfl ?_
    refine w_getI (g_68_13 _) fe_68_13 ok1 (fun z94 hz94 hl94 hh94 => ?_)
    refine w_push kc_41 ?_
    refine w_cne (by omega) (fun h95 => ?_) (fun h95 => ?_)
    · skip
      exact key8  _ o4  (by unfold NotP; omega)  (by omega)
    refine w_iload rfl ?_
    refine w_ile (by omega) (fun h96 => ?_) (fun h96 => ?_)
    · skip
      exact key8  _ o4  (by unfold NotP; omega)  (by omega)
    refine w_aload rfl ?_
    refine w_push kc_0 ?_
    refine w_callV1V (oj_68 _).choose_spec rfl (e_X9_settle ok1 e1.1 (by omega) (by omega) (by omega)) ?_
    rintro t97 ⟨ok97, fq97, hp97_0, hp97_1, hp97_2, hp97_3, hp97_4, hp97_5⟩
    have fr97 := fr1.then fq97 (by simp)
    have kf97_68_9 : tI t97 68 9 = tI t1 68 9 := fq97.1 68 9 (by simp)
    have kf97_68_10 : tI t97 68 10 = tI t1 68 10 := fq97.1 68 10 (by simp)
    have kf97_68_11 : tI t97 68 11 = tI t1 68 11 := fq97.1 68 11 (by simp)
    have kf97_68_12 : tI t97 68 12 = tI t1 68 12 := fq97.1 68 12 (by simp)
    have kf97_68_13 : tI t97 68 13 = tI t1 68 13 := fq97.1 68 13 (by simp)
    have kf97_68_14 : tI t97 68 14 = tI t1 68 14 := fq97.1 68 14 (by simp)
    have kf97_68_20 : tI t97 68 20 = tI t1 68 20 := fq97.1 68 20 (by simp)
    have eE := (show EN t1 1 parens from e1).st fq97 (by simp) hp97_0 hp97_4
    have hT := eE.top (by omega) (ok97.f fe_68_22).1
    have hO := hp97_3
    have f79 : ∀ i, tA t97 79 i = tA t1 79 i := fun i => fq97.2.1 79 (by simp) i
    have s1 := se_t hp97_5 rfl rfl
    have c1 := cr.fr fq97 (by simp) (by simp) (by simp) (by simp) (by simp) (by simp)
    have sT : tA t97 80 = tA t1 80 := funext (fq97.2.1 80 (by simp))
    refine w_aload rfl ?_
    refine w_dupR ?_
    refine w_getI (g_68_22 _) fe_68_22 ok97 (fun z98 hz98 hl98 hh98 => ?_)
    refine w_push kc_1 ?_
    refine w_sub ?_
    refine w_putI (p_68_22 _) fe_68_22 ok97 (by omega) (fun t99 ht99 ok99 => ?_)
    have kf99_68_9 : tI t99 68 9 = tI t97 68 9 := by rw [ht99, tI_uI, if_neg (by decide)]
    have kf99_68_10 : tI t99 68 10 = tI t97 68 10 := by rw [ht99, tI_uI, if_neg (by decide)]
    have kf99_68_11 : tI t99 68 11 = tI t97 68 11 := by rw [ht99, tI_uI, if_neg (by decide)]
    have kf99_68_12 : tI t99 68 12 = tI t97 68 12 := by rw [ht99, tI_uI, if_neg (by decide)]
    have kf99_68_13 : tI t99 68 13 = tI t97 68 13 := by rw [ht99, tI_uI, if_neg (by decide)]
    have kf99_68_14 : tI t99 68 14 = tI t97 68 14 := by rw [ht99, tI_uI, if_neg (by decide)]
    have kf99_68_19 : tI t99 68 19 = tI t97 68 19 := by rw [ht99, tI_uI, if_neg (by decide)]
    have kf99_68_20 : tI t99 68 20 = tI t97 68 20 := by rw [ht99, tI_uI, if_neg (by decide)]
    have kf99_68_22 : tI t99 68 22 = (z98 - 1) := by rw [ht99, tI_uI, if_pos ⟨rfl, rfl⟩]
    have fr99 := fr97.uI ht99 (by simp)
    have p2 := ht99
    have eE : EN t99 1 (parens - 1) := eE.drp (by omega) (by rw [f79]; omega) (by omega) (by omega) (fun i => by rw [p2, tA_uI]) (fun i => by rw [p2, tA_uI])
    have c1 := c1.uI ht99 (by omega)
    have s2 : stR t99 = (stR t97).tail := st_drop (by omega) (by omega) (fun i => by rw [p2, tA_uI])
    have s3 : coR t99 = coR t97 := co_same (by omega) (fun i => by rw [p2, tA_uI])
    have sT : tA t99 80 = tA t1 80 := by rw [p2, tA_uI]; exact sT
    refine w_iinc (lv' := [some (.ref 68), some (.int (jI (parens + (-1)))), some (.int (jI nots)), some (.int (jI wants)), dv o4]) kc_m1 rfl rfl ?_
    refine w_aload rfl ?_
    refine w_push kc_6 ?_
    refine w_callV1V (oj_68 _).choose_spec rfl (e_X9_settle ok99 eE.1 (by omega) (by omega) (by omega)) ?_
    rintro t100 ⟨ok100, fq100, hp100_0, hp100_1, hp100_2, hp100_3, hp100_4, hp100_5⟩
    have fr100 := fr99.then fq100 (by simp)
    have kf100_68_9 : tI t100 68 9 = tI t99 68 9 := fq100.1 68 9 (by simp)
    have kf100_68_10 : tI t100 68 10 = tI t99 68 10 := fq100.1 68 10 (by simp)
    have kf100_68_11 : tI t100 68 11 = tI t99 68 11 := fq100.1 68 11 (by simp)
    have kf100_68_12 : tI t100 68 12 = tI t99 68 12 := fq100.1 68 12 (by simp)
    have kf100_68_13 : tI t100 68 13 = tI t99 68 13 := fq100.1 68 13 (by simp)
    have kf100_68_14 : tI t100 68 14 = tI t99 68 14 := fq100.1 68 14 (by simp)
    have kf100_68_20 : tI t100 68 20 = tI t99 68 20 := fq100.1 68 20 (by simp)
    have eE := eE.st fq100 (by simp) hp100_0 hp100_4
    have s4 := se_c s1 s2 s3 hp100_5
    have sS := s4.1
    have sO := s4.2
    have c2 := c1.fr fq100 (by simp) (by simp) (by simp) (by simp) (by simp) (by simp)
    have sT : tA t100 80 = tA t1 80 := (funext (fq100.2.1 80 (by simp))).trans sT
    refine w_aload rfl ?_
    refine w_callV0I (oj_68 _).choose_spec rfl (e_X9_notsOpen ok100) ?_
    rintro z101 t101 ⟨rfl, hp101_0, hp101_1, hp101_2⟩
    have hno := hp101_2
    rw [sS] at hno
    refine w_istore (lv' := [some (.ref 68), some (.int (jI (parens + (-1)))), some (.int (jI z101)), some (.int (jI wants)), dv o4]) rfl ?_
    refine w_aload rfl ?_
    refine w_callV0V (oj_68 _).choose_spec rfl (e_X9_go ok100 (by omega) (c2.go wc (tk_ne wc (by omega)))) ?_
    rintro t102 ⟨ok102, fq102, hp102_0, hp102_1, hp102_2, hp102_3, hp102_4, hp102_5⟩
    have fr102 := fr100.then fq102 (by simp)
    have kf102_68_9 : tI t102 68 9 = tI t100 68 9 := fq102.1 68 9 (by simp)
    have kf102_68_19 : tI t102 68 19 = tI t100 68 19 := fq102.1 68 19 (by simp)
    have kf102_68_20 : tI t102 68 20 = tI t100 68 20 := fq102.1 68 20 (by simp)
    have kf102_68_22 : tI t102 68 22 = tI t100 68 22 := fq102.1 68 22 (by simp)
    have eE := eE.fr fq102 (by simp) (by simp) (by simp) (by simp)
    have cG : CRx t102 (stC (tA t 75) (tI t 68 9) cc) := by
      have h9 := hp102_5
      rw [show tA t100 75 = tA t 75 from funext (fr100.2.1 75 (by simp)), show tI t100 68 9 = tI t 68 9 by omega] at h9
      exact h9
    have sS := (st_same (u := t100) (v := t102) (fq102.1 68 22 (by simp)) (fq102.2.1 79 (by simp))).trans sS
    have sO := (co_same (u := t100) (v := t102) (fq102.1 68 19 (by simp)) (fq102.2.1 78 (by simp))).trans sO
    have sT := (show tA t102 80 = tA t100 80 from funext (fq102.2.1 80 (by simp))).trans sT
    have eY : TEp t c t102 (parens + (-1)) z101 wants := te_s2 hT0 wc rc (sy_cl (by omega) ht9 ⟨(si_u gr cr wc (x := 41) (by decide)).mpr (by omega), by omega⟩) (by omega) (by omega) hno cG sS sO (by omega) sT
    refine w_goto ?_
    have eB : EN t102 (1 - wants) ((parens + (-1))) := by
      first
        | (have h9 : (1 : Int) - wants = 0 := by omega
           rw [h9]; have h8 : (parens + (-1)) = parens + (if (-10 : Int) = -11 then 1 else 0) := by simp
           rw [h8]; exact eE)
        | (have h9 : (1 : Int) - wants = 0 := by omega
           rw [h9]; have h8 : (parens + (-1)) = parens + (if (-11 : Int) = -11 then 1 else 0) := by simp
           rw [h8]; exact eE)
        | (have h9 : (1 : Int) - wants = 1 := by omega
           rw [h9]; exact eP (by omega))
        | (have h9 : (1 : Int) - wants = 1 := by omega
           rw [h9]; have h8 : (parens + (-1)) = parens - 1 := by omega
           rw [h8]; exact eE)
        | (have h9 : (1 : Int) - wants = 0 := by omega
           rw [h9]; exact eE)
    have eT : TEp t c t102 ((parens + (-1))) (z101) (wants) := by
      first
        | exact eY
        | exact eY _ hno
        | exact eY.go (by omega) _ hno
        | omega
    exact ih1 _ (parens + (-1)) z101 wants o4 t102 ok102 fr102 eB (by omega) (by omega) (by omega) (by omega) (by omega) (by omega) (by omega) (by omega) (by omega) (by omega) (by omega) (by omega) (by omega) eT (by omega) (by omega)
set_option maxRecDepth 100000 in
set_option maxHeartbeats 4000000 in
theorem e_X9_takesE {d : Nat} {t : TS} {c : PCu} (ok : OK t) (q0 : 3 ≤ tI t 68 11) (q1 : tI t 68 11 ≤ tI t 68 10) (q2 : tI t 68 10 ≤ tI t 68 9) (q3 : tI t 68 12 = 0 → tI t 68 11 = tI t 68 9) (q4 : ¬ tI t 68 12 = 0 → tI t 68 11 < tI t 68 10) (q5 : CRx t c) (q6 : WC (tI t 68 9) c) : CI (EX FU (d + 4)) 198 [.ref 68] (mk t) (fun z t' => OK t' ∧ Fr [(68, 10), (68, 11), (68, 12), (68, 13), (68, 14), (68, 19), (68, 20), (68, 22), (78, 100), (79, 100), (80, 100)] t t' ∧ (0 ≤ z) ∧ (z ≤ 1) ∧ (¬ z = 0 → wfC (tA t' 78) (tI t' 68 19).toNat) ∧ (tI t' 68 19 ≤ 95 ∨ z = 0) ∧ (TFp t c z t')) := by
  refine CI_ent (d := d + 3) (Bk := bX9_takesE) (nL := 5) rfl rfl rfl (Nat.le_of_ble_eq_true rfl) ?_
  show Rn _ 1000000 0 [some (.ref 68), none, none, none, none] [] _ _
  have fr : Fr [(68, 10), (68, 11), (68, 12), (68, 13), (68, 14), (68, 19), (68, 20), (68, 22), (78, 100), (79, 100), (80, 100)] t t := Fr.rf _ _
  have r9 := ok.f fe_68_9
  refine w_step rfl ?_
  refine w_push kc_0 ?_
  refine w_istore (lv' := [some (.ref 68), some (.int (jI 0)), none, none, none]) rfl ?_
  refine w_push kc_0 ?_
  refine w_istore (lv' := [some (.ref 68), some (.int (jI 0)), some (.int (jI 0)), none, none]) rfl ?_
  refine w_push kc_1 ?_
  refine w_istore (lv' := [some (.ref 68), some (.int (jI 0)), some (.int (jI 0)), some (.int (jI 1)), none]) rfl ?_
  refine w_aload rfl ?_
  refine w_push kc_0 ?_
  refine w_putI (p_68_19 _) fe_68_19 ok (by omega) (fun t103 ht103 ok103 => ?_)
  have kf103_68_9 : tI t103 68 9 = tI t 68 9 := by rw [ht103, tI_uI, if_neg (by decide)]
  have kf103_68_10 : tI t103 68 10 = tI t 68 10 := by rw [ht103, tI_uI, if_neg (by decide)]
  have kf103_68_11 : tI t103 68 11 = tI t 68 11 := by rw [ht103, tI_uI, if_neg (by decide)]
  have kf103_68_12 : tI t103 68 12 = tI t 68 12 := by rw [ht103, tI_uI, if_neg (by decide)]
  have kf103_68_13 : tI t103 68 13 = tI t 68 13 := by rw [ht103, tI_uI, if_neg (by decide)]
  have kf103_68_14 : tI t103 68 14 = tI t 68 14 := by rw [ht103, tI_uI, if_neg (by decide)]
  have kf103_68_19 : tI t103 68 19 = 0 := by rw [ht103, tI_uI, if_pos ⟨rfl, rfl⟩]
  have kf103_68_20 : tI t103 68 20 = tI t 68 20 := by rw [ht103, tI_uI, if_neg (by decide)]
  have kf103_68_22 : tI t103 68 22 = tI t 68 22 := by rw [ht103, tI_uI, if_neg (by decide)]
  have fr103 := fr.uI ht103 (by simp)
  have p1 := ht103
  have c1 := q5.uI ht103 (by omega)
  refine w_aload rfl ?_
  refine w_push kc_0 ?_
  refine w_putI (p_68_20 _) fe_68_20 ok103 (by omega) (fun t104 ht104 ok104 => ?_)
  have kf104_68_9 : tI t104 68 9 = tI t103 68 9 := by rw [ht104, tI_uI, if_neg (by decide)]
  have kf104_68_10 : tI t104 68 10 = tI t103 68 10 := by rw [ht104, tI_uI, if_neg (by decide)]
  have kf104_68_11 : tI t104 68 11 = tI t103 68 11 := by rw [ht104, tI_uI, if_neg (by decide)]
  have kf104_68_12 : tI t104 68 12 = tI t103 68 12 := by rw [ht104, tI_uI, if_neg (by decide)]
  have kf104_68_13 : tI t104 68 13 = tI t103 68 13 := by rw [ht104, tI_uI, if_neg (by decide)]
  have kf104_68_14 : tI t104 68 14 = tI t103 68 14 := by rw [ht104, tI_uI, if_neg (by decide)]
  have kf104_68_19 : tI t104 68 19 = tI t103 68 19 := by rw [ht104, tI_uI, if_neg (by decide)]
  have kf104_68_20 : tI t104 68 20 = 0 := by rw [ht104, tI_uI, if_pos ⟨rfl, rfl⟩]
  have kf104_68_22 : tI t104 68 22 = tI t103 68 22 := by rw [ht104, tI_uI, if_neg (by decide)]
  have fr104 := fr103.uI ht104 (by simp)
  have p2 := ht104
  have c1 := c1.uI ht104 (by omega)
  refine w_aload rfl ?_
  refine w_push kc_0 ?_
  refine w_putI (p_68_22 _) fe_68_22 ok104 (by omega) (fun t105 ht105 ok105 => ?_)
  have kf105_68_9 : tI t105 68 9 = tI t104 68 9 := by rw [ht105, tI_uI, if_neg (by decide)]
  have kf105_68_10 : tI t105 68 10 = tI t104 68 10 := by rw [ht105, tI_uI, if_neg (by decide)]
  have kf105_68_11 : tI t105 68 11 = tI t104 68 11 := by rw [ht105, tI_uI, if_neg (by decide)]
  have kf105_68_12 : tI t105 68 12 = tI t104 68 12 := by rw [ht105, tI_uI, if_neg (by decide)]
  have kf105_68_13 : tI t105 68 13 = tI t104 68 13 := by rw [ht105, tI_uI, if_neg (by decide)]
  have kf105_68_14 : tI t105 68 14 = tI t104 68 14 := by rw [ht105, tI_uI, if_neg (by decide)]
  have kf105_68_19 : tI t105 68 19 = tI t104 68 19 := by rw [ht105, tI_uI, if_neg (by decide)]
  have kf105_68_20 : tI t105 68 20 = tI t104 68 20 := by rw [ht105, tI_uI, if_neg (by decide)]
  have kf105_68_22 : tI t105 68 22 = 0 := by rw [ht105, tI_uI, if_pos ⟨rfl, rfl⟩]
  have fr105 := fr104.uI ht105 (by simp)
  have p3 := ht105
  have c1 := c1.uI ht105 (by omega)
  refine w_aload rfl ?_
  refine w_getR (g_68_23 _) ?_
  refine w_push kc_0 ?_
  refine w_push kc_0 ?_
  refine w_iast (i := 0) (ai_80 _) (nar_bool (by omega)) (by omega) (by omega) (ae_80 _) ok105 (by omega) (fun t106 ht106 ok106 => ?_)
  have kf106_68_9 : tI t106 68 9 = tI t105 68 9 := by rw [ht106]; rfl
  have kf106_68_10 : tI t106 68 10 = tI t105 68 10 := by rw [ht106]; rfl
  have kf106_68_11 : tI t106 68 11 = tI t105 68 11 := by rw [ht106]; rfl
  have kf106_68_12 : tI t106 68 12 = tI t105 68 12 := by rw [ht106]; rfl
  have kf106_68_13 : tI t106 68 13 = tI t105 68 13 := by rw [ht106]; rfl
  have kf106_68_14 : tI t106 68 14 = tI t105 68 14 := by rw [ht106]; rfl
  have kf106_68_19 : tI t106 68 19 = tI t105 68 19 := by rw [ht106]; rfl
  have kf106_68_20 : tI t106 68 20 = tI t105 68 20 := by rw [ht106]; rfl
  have kf106_68_22 : tI t106 68 22 = tI t105 68 22 := by rw [ht106]; rfl
  have fr106 := fr105.uA ht106 (by simp)
  have p4 := ht106
  have c1 := c1.uA ht106 (by decide)
  have h80 : tA t106 80 0 = 0 := by rw [ht106, tA_uA]; simp
  have eS : EN t106 0 0 := by
    unfold EN EI
    rw [show tI t106 68 19 = 0 by omega, show tI t106 68 22 = 0 by omega]
    exact ⟨⟨fun j hj => absurd hj (Nat.not_lt_zero j), rfl, fun j hj => absurd hj (Nat.not_lt_zero j)⟩, rfl⟩
  refine w_goto ?_
  exact e_X9_takesE_k1 (d := d) ok q0 q1 q2 q3 q4 q5 q6 97 _ 0 0 1 none t106 ok106 fr106 eS (by omega) (by omega) (by omega) (by omega) (by omega) (by omega) (by omega) (by omega) (by omega) (by omega) (by omega) (by omega) (by omega) (te_0 c1 q6 h80 (by unfold stR; rw [show tI t106 68 22 = 0 by omega]; rfl) (by unfold coR; rw [show tI t106 68 19 = 0 by omega]; rfl) (by omega) rfl rfl rfl) (by omega) (by omega)
