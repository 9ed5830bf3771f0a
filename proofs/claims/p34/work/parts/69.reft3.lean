set_option maxRecDepth 100000 in
set_option maxHeartbeats 4000000 in
theorem c_X9_settle {d : Nat} {t : TS} {x : Int}  (ok : OK t) (q0 : EI t 1) (q1 : tI t 68 19 + tI t 68 22 ≤ 95) (q2 : 0 ≤ x) (q3 : x ≤ 6) : CV (EX FU (d + 2)) 195 [.ref 68, .int (jI x)] (mk t) (fun t' => OK t' ∧ Fr [(68, 19), (68, 22), (78, 100)] t t' ∧ (EI t' 1) ∧ (tI t' 68 22 ≤ tI t 68 22) ∧ (tI t' 68 19 + tI t' 68 22 = tI t 68 19 + tI t 68 22) ∧ (tI t' 68 22 = 0 ∨ tA t 79 (tI t' 68 22 - 1).toNat = -11 ∨ 0 < x) ∧ (noF (tA t 79) (tI t' 68 22).toNat = noF (tA t 79) (tI t 68 22).toNat)) := by
  refine CV_ent (d := d + 1) (Bk := bX9_settle) (nL := 2) rfl rfl rfl (Nat.le_of_ble_eq_true rfl) ?_
  show Rn _ 1000000 0 [some (.ref 68), some (.int (jI x))] [] _ _
  have fr : Fr [(68, 19), (68, 22), (78, 100)] t t := Fr.rf _ _
  have key0 : ∀ (n0 M0 : Nat) (t1 : TS), OK t1 → Fr [(68, 19), (68, 22), (78, 100)] t t1 → (EI t1 1) → (tI t1 68 22 ≤ tI t 68 22) → (tI t1 68 19 + tI t1 68 22 = tI t 68 19 + tI t 68 22) → (noF (tA t 79) (tI t1 68 22).toNat = noF (tA t 79) (tI t 68 22).toNat) → (0 ≤ tI t1 68 22) → tI t1 68 22 < (n0 : Int) → 60 * n0 + (1000) ≤ M0 → Rn (bX9_settle (EX FU (d + 1))) M0 0 [some (.ref 68), some (.int (jI x))] [] (mk t1) (PV (fun t' => OK t' ∧ Fr [(68, 19), (68, 22), (78, 100)] t t' ∧ (EI t' 1) ∧ (tI t' 68 22 ≤ tI t 68 22) ∧ (tI t' 68 19 + tI t' 68 22 = tI t 68 19 + tI t 68 22) ∧ (tI t' 68 22 = 0 ∨ tA t 79 (tI t' 68 22 - 1).toNat = -11 ∨ 0 < x) ∧ (noF (tA t 79) (tI t' 68 22).toNat = noF (tA t 79) (tI t 68 22).toNat))) := by
    intro n0
    induction n0 with
    | zero => intro M0 t1 ok1 fr1 i0_0 i0_1 i0_2 i0_3 i0_4 v0 f0; exfalso; omega
    | succ n0 ih0 =>
      intro M0 t1 ok1 fr1 i0_0 i0_1 i0_2 i0_3 i0_4 v0 f0
      obtain ⟨M0, rfl⟩ : ∃ m, M0 = m + 60 := ⟨M0 - 60, by omega⟩
      have hr0 := ok1.f fe_68_22
      have hr1 := ok1.f fe_68_19
      have frs := fr1
      refine w_step rfl ?_
      refine w_aload rfl ?_
      refine w_getI (g_68_22 _) fe_68_22 ok1 (fun z2 hz2 hl2 hh2 => ?_)
      refine w_ile (by omega) (fun h3 => ?_) (fun h3 => ?_)
      · skip
        refine w_step rfl ?_
        refine w_retV ?_
        exact ⟨ok1, fr1, i0_0, (by omega), (by omega), (by omega), i0_3⟩
      refine w_aload rfl ?_
      refine w_getR (g_68_21 _) ?_
      refine w_aload rfl ?_
      refine w_getI (g_68_22 _) fe_68_22 ok1 (fun z4 hz4 hl4 hh4 => ?_)
      refine w_push kc_1 ?_
      refine w_sub ?_
      refine w_iald (i := ((z4 - 1)).toNat) (ai_79 _) (by omega) (by omega) (ae_79 _) ok1 (fun z5 hz5 hl5 hh5 => ?_)
      have eg : z5 = tA t 79 (tI t1 68 22 - 1).toNat := by
        rw [hz5, fr1.2.1 79 (by simp)]
        congr 2
        omega
      refine w_push kc_m11 ?_
      refine w_ceq (by omega) (fun h6 => ?_) (fun h6 => ?_)
      · skip
        refine w_step rfl ?_
        refine w_retV ?_
        exact ⟨ok1, fr1, i0_0, (by omega), (by omega), (by omega), i0_3⟩
      refine w_aload rfl ?_
      refine w_getR (g_68_21 _) ?_
      refine w_aload rfl ?_
      refine w_getI (g_68_22 _) fe_68_22 ok1 (fun z7 hz7 hl7 hh7 => ?_)
      refine w_push kc_1 ?_
      refine w_sub ?_
      refine w_iald (i := ((z7 - 1)).toNat) (ai_79 _) (by omega) (by omega) (ae_79 _) ok1 (fun z8 hz8 hl8 hh8 => ?_)
      refine w_callS1I rfl (c_X9_rank ok1 (by omega) (by omega)) ?_
      rintro z9 t9 ⟨rfl, hp9_0, hp9_1⟩
      refine w_iload rfl ?_
      refine w_clt (by omega) (fun h10 => ?_) (fun h10 => ?_)
      · skip
        refine w_step rfl ?_
        refine w_retV ?_
        exact ⟨ok1, fr1, i0_0, (by omega), (by omega), (by omega), i0_3⟩
      refine w_aload rfl ?_
      refine w_dupR ?_
      refine w_getI (g_68_22 _) fe_68_22 ok1 (fun z11 hz11 hl11 hh11 => ?_)
      refine w_push kc_1 ?_
      refine w_sub ?_
      refine w_putI (p_68_22 _) fe_68_22 ok1 (by omega) (fun t12 ht12 ok12 => ?_)
      have kf12_68_19 : tI t12 68 19 = tI t1 68 19 := by rw [ht12, tI_uI, if_neg (by decide)]
      have kf12_68_22 : tI t12 68 22 = (z11 - 1) := by rw [ht12, tI_uI, if_pos ⟨rfl, rfl⟩]
      have fr12 := fr1.uI ht12 (by simp)
      have p1 := ht12
      refine w_aload rfl ?_
      refine w_getR (g_68_18 _) ?_
      refine w_aload rfl ?_
      refine w_getI (g_68_19 _) fe_68_19 ok12 (fun z13 hz13 hl13 hh13 => ?_)
      refine w_aload rfl ?_
      refine w_getR (g_68_21 _) ?_
      refine w_aload rfl ?_
      refine w_getI (g_68_22 _) fe_68_22 ok12 (fun z14 hz14 hl14 hh14 => ?_)
      refine w_iald (i := (z14).toNat) (ai_79 _) (by omega) (by omega) (ae_79 _) ok12 (fun z15 hz15 hl15 hh15 => ?_)
      have ev : z15 = tA t 79 (tI t1 68 22 - 1).toNat := by
        rw [hz15, fr12.2.1 79 (by simp)]
        congr 2
        omega
      refine w_iast (i := (z13).toNat) (ai_78 _) rfl (by omega) (by omega) (ae_78 _) ok12 (by omega) (fun t16 ht16 ok16 => ?_)
      have kf16_68_19 : tI t16 68 19 = tI t12 68 19 := by rw [ht16]; rfl
      have kf16_68_22 : tI t16 68 22 = tI t12 68 22 := by rw [ht16]; rfl
      have fr16 := fr12.uA ht16 (by simp)
      have p2 := ht16
      refine w_aload rfl ?_
      refine w_dupR ?_
      refine w_getI (g_68_19 _) fe_68_19 ok16 (fun z17 hz17 hl17 hh17 => ?_)
      refine w_push kc_1 ?_
      refine w_add ?_
      refine w_putI (p_68_19 _) fe_68_19 ok16 (by omega) (fun t18 ht18 ok18 => ?_)
      have kf18_68_19 : tI t18 68 19 = (z17 + 1) := by rw [ht18, tI_uI, if_pos ⟨rfl, rfl⟩]
      have kf18_68_22 : tI t18 68 22 = tI t16 68 22 := by rw [ht18, tI_uI, if_neg (by decide)]
      have fr18 := fr16.uI ht18 (by simp)
      have p3 := ht18
      refine w_goto ?_
      have hh9 : (tI t1 68 22).toNat = (tI t18 68 22).toNat + 1 := by omega
      have hc9 : (tI t18 68 19).toNat = (tI t1 68 19).toNat + 1 := by omega
      have hi9 : (tI t1 68 22 - 1).toNat = (tI t18 68 22).toNat := by omega
      rw [hi9] at ev eg
      have h79 : ∀ i, tA t18 79 i = tA t 79 i := fun i => fr18.2.1 79 (by simp) i
      have eN : EI t18 1 := by
        unfold EI
        rw [hc9]
        have e0 : EIf (tA t1 78) (tA t1 79) (tI t1 68 19).toNat ((tI t18 68 22).toNat + 1) 1 := by rw [← hh9]; exact i0_0
        have f9 : ∀ i, tA t1 79 i = tA t 79 i := fun i => frs.2.1 79 (by simp) i
        refine EIf.congr (EIf.pop (f' := tA t18 78) e0 ?_ ?_ ?_) (fun _ _ => rfl) (fun i _ => by rw [h79, f9])
        · rw [f9]; omega
        · rw [f9, ← ev, p3, tA_uI, p2, tA_uA, if_pos (by omega)]
        · intro i hi; rw [p3, tA_uI, p2, tA_uA, if_neg (by omega), p1, tA_uI]
      have oN : noF (tA t 79) (tI t18 68 22).toNat = noF (tA t 79) (tI t 68 22).toNat := by
        rw [← i0_3, hh9]
        show _ = noF (tA t 79) (tI t18 68 22).toNat + (if tA t 79 (tI t18 68 22).toNat = -11 then 1 else 0)
        rw [if_neg (by omega)]
        omega
      exact ih0 _ t18 ok18 fr18 eN (by omega) (by omega) oN (by omega) (by omega) (by omega)
  have hr0 := ok.f fe_68_22
  exact key0 97 _ t ok fr q0 (by omega) (by omega) rfl (by omega) (by omega) (by omega)
