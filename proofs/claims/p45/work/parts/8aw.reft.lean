set_option maxRecDepth 100000 in
set_option maxHeartbeats 4000000 in
theorem e_X9_isLetter {d : Nat} {t : TS} {k : Int}  (ok : OK t) (q0 : 0 ≤ k) (q1 : k ≤ 96) : CI (EX FU (d + 1)) 189 [.ref 68, .int (jI k)] (mk t) (fun z t' => t = t' ∧ ((z = 0 ∧ ¬ (k < tI t 68 9 ∧ 97 ≤ tA t 75 k.toNat ∧ tA t 75 k.toNat ≤ 122)) ∨ (z = 1 ∧ (k < tI t 68 9 ∧ 97 ≤ tA t 75 k.toNat ∧ tA t 75 k.toNat ≤ 122)))) := by
  refine CI_ent (d := d + 0) (Bk := bX9_isLetter) (nL := 2) rfl rfl rfl (Nat.le_of_ble_eq_true rfl) ?_
  show Rn _ 1000000 0 [some (.ref 68), some (.int (jI k))] [] _ _
  refine w_step rfl ?_
  refine w_iload rfl ?_
  refine w_aload rfl ?_
  refine w_getI (g_68_9 _) fe_68_9 ok (fun z1 hz1 hl1 hh1 => ?_)
  refine w_cge (by omega) (fun h2 => ?_) (fun h2 => ?_)
  · skip
    refine w_step rfl ?_
    refine w_push kc_0 ?_
    refine w_goto ?_
    refine w_step rfl ?_
    refine w_retI rfl ?_
    exact ⟨rfl, (by omega)⟩
  refine w_aload rfl ?_
  refine w_getR (g_68_8 _) ?_
  refine w_iload rfl ?_
  refine w_iald (i := (k).toNat) (ai_75 _) (by omega) (by omega) (ae_75 _) ok (fun z3 hz3 hl3 hh3 => ?_)
  refine w_push kc_97 ?_
  refine w_clt (by omega) (fun h4 => ?_) (fun h4 => ?_)
  · skip
    refine w_step rfl ?_
    refine w_push kc_0 ?_
    refine w_goto ?_
    refine w_step rfl ?_
    refine w_retI rfl ?_
    exact ⟨rfl, (by omega)⟩
  refine w_aload rfl ?_
  refine w_getR (g_68_8 _) ?_
  refine w_iload rfl ?_
  refine w_iald (i := (k).toNat) (ai_75 _) (by omega) (by omega) (ae_75 _) ok (fun z5 hz5 hl5 hh5 => ?_)
  refine w_push kc_122 ?_
  refine w_cgt (by omega) (fun h6 => ?_) (fun h6 => ?_)
  · skip
    refine w_step rfl ?_
    refine w_push kc_0 ?_
    refine w_goto ?_
    refine w_step rfl ?_
    refine w_retI rfl ?_
    exact ⟨rfl, (by omega)⟩
  refine w_push kc_1 ?_
  refine w_goto ?_
  refine w_step rfl ?_
  refine w_retI rfl ?_
  exact ⟨rfl, (by omega)⟩
set_option maxRecDepth 100000 in
set_option maxHeartbeats 4000000 in
theorem e_X9_isFigure {d : Nat} {t : TS} {k : Int}  (ok : OK t) (q0 : 0 ≤ k) (q1 : k ≤ 96) : CI (EX FU (d + 1)) 190 [.ref 68, .int (jI k)] (mk t) (fun z t' => t = t' ∧ ((z = 0 ∧ ¬ (k < tI t 68 9 ∧ 48 ≤ tA t 75 k.toNat ∧ tA t 75 k.toNat ≤ 57)) ∨ (z = 1 ∧ (k < tI t 68 9 ∧ 48 ≤ tA t 75 k.toNat ∧ tA t 75 k.toNat ≤ 57)))) := by
  refine CI_ent (d := d + 0) (Bk := bX9_isFigure) (nL := 2) rfl rfl rfl (Nat.le_of_ble_eq_true rfl) ?_
  show Rn _ 1000000 0 [some (.ref 68), some (.int (jI k))] [] _ _
  refine w_step rfl ?_
  refine w_iload rfl ?_
  refine w_aload rfl ?_
  refine w_getI (g_68_9 _) fe_68_9 ok (fun z1 hz1 hl1 hh1 => ?_)
  refine w_cge (by omega) (fun h2 => ?_) (fun h2 => ?_)
  · skip
    refine w_step rfl ?_
    refine w_push kc_0 ?_
    refine w_goto ?_
    refine w_step rfl ?_
    refine w_retI rfl ?_
    exact ⟨rfl, (by omega)⟩
  refine w_aload rfl ?_
  refine w_getR (g_68_8 _) ?_
  refine w_iload rfl ?_
  refine w_iald (i := (k).toNat) (ai_75 _) (by omega) (by omega) (ae_75 _) ok (fun z3 hz3 hl3 hh3 => ?_)
  refine w_push kc_48 ?_
  refine w_clt (by omega) (fun h4 => ?_) (fun h4 => ?_)
  · skip
    refine w_step rfl ?_
    refine w_push kc_0 ?_
    refine w_goto ?_
    refine w_step rfl ?_
    refine w_retI rfl ?_
    exact ⟨rfl, (by omega)⟩
  refine w_aload rfl ?_
  refine w_getR (g_68_8 _) ?_
  refine w_iload rfl ?_
  refine w_iald (i := (k).toNat) (ai_75 _) (by omega) (by omega) (ae_75 _) ok (fun z5 hz5 hl5 hh5 => ?_)
  refine w_push kc_57 ?_
  refine w_cgt (by omega) (fun h6 => ?_) (fun h6 => ?_)
  · skip
    refine w_step rfl ?_
    refine w_push kc_0 ?_
    refine w_goto ?_
    refine w_step rfl ?_
    refine w_retI rfl ?_
    exact ⟨rfl, (by omega)⟩
  refine w_push kc_1 ?_
  refine w_goto ?_
  refine w_step rfl ?_
  refine w_retI rfl ?_
  exact ⟨rfl, (by omega)⟩
set_option maxRecDepth 100000 in
set_option maxHeartbeats 4000000 in
theorem e_X9_go_k10 {d : Nat} {t : TS} {c : PCu} (ok : OK t) (q0 : tI t 68 10 ≤ tI t 68 9) (q1 : GO t c) : ∀ (n10 M10 : Nat) (cl : Int) (t1 : TS), OK t1 → Fr [(68, 10), (68, 11), (68, 12), (68, 13), (68, 14)] t t1 → (tI t1 68 9 = tI t 68 9) → (tI t1 68 11 ≤ tI t1 68 10) → (tI t1 68 10 ≤ tI t 68 9) → (tI t 68 10 ≤ tI t1 68 11) → (0 ≤ cl) → (cl ≤ 1) → (tI t1 68 10 = tI t1 68 11 → (tI t1 68 10 < tI t1 68 9 ∧ 48 ≤ tA t1 75 (tI t1 68 10).toNat ∧ tA t1 75 (tI t1 68 10).toNat ≤ 57)) → ((tI t1 68 10 - tI t1 68 11) ≤ 3 → tI t1 68 13 ≤ 999) → ((tI t1 68 10 - tI t1 68 11) ≤ 2 → tI t1 68 13 ≤ 99) → ((tI t1 68 10 - tI t1 68 11) ≤ 1 → tI t1 68 13 ≤ 9) → ((tI t1 68 10 - tI t1 68 11) ≤ 0 → tI t1 68 13 ≤ 0) → (tI t1 68 11 = (skF (tA t 75) (tI t 68 9) 97 (tI t 68 10))) → (tI t1 68 14 = tI t 68 14) → ((cl = 1 ∧ (skF (tA t 75) (tI t 68 9) 97 (tI t 68 10)) = tI t 68 14) ∨ (cl = 0 ∧ ¬ (skF (tA t 75) (tI t 68 9) 97 (tI t 68 10)) = tI t 68 14)) → (soF (tA t 75) (tI t 68 9) (skF (tA t 75) (tI t 68 9) 97 (tI t 68 10)) = 2) → (RUp (tA t 75) (tI t 68 9) 2 (skF (tA t 75) (tI t 68 9) 97 (tI t 68 10)) (tI t1 68 10)) → (NFp (tA t 75) (skF (tA t 75) (tI t 68 9) 97 (tI t 68 10)) (tI t1 68 10) (tI t1 68 13)) → 96 - tI t1 68 10 < (n10 : Int) → 60 * n10 + (1000) ≤ M10 → Rn (bX9_go (EX FU (d + 1))) M10 10 [some (.ref 68), some (.int (jI cl))] [] (mk t1) (PV (fun t' => OK t' ∧ Fr [(68, 10), (68, 11), (68, 12), (68, 13), (68, 14)] t t' ∧ (tI t 68 10 ≤ tI t' 68 11) ∧ (tI t' 68 11 ≤ tI t' 68 10) ∧ (tI t' 68 10 ≤ tI t 68 9) ∧ (tI t' 68 12 = 0 → tI t' 68 11 = tI t 68 9) ∧ (¬ tI t' 68 12 = 0 → tI t' 68 11 < tI t' 68 10) ∧ (CRx t' (stC (tA t 75) (tI t 68 9) c)))) := by
  have hr9t := ok.f fe_68_9
  have hrAt := ok.f fe_68_10
  intro n10
  induction n10 with
  | zero => intro M10 cl t1 ok1 fr1 i10_0 i10_1 i10_2 i10_3 i10_4 i10_5 i10_6 i10_7 i10_8 i10_9 i10_10 i10_11 i10_12 i10_13 i10_14 i10_15 i10_16 v10 f10; exfalso; omega
  | succ n10 ih10 =>
    intro M10 cl t1 ok1 fr1 i10_0 i10_1 i10_2 i10_3 i10_4 i10_5 i10_6 i10_7 i10_8 i10_9 i10_10 i10_11 i10_12 i10_13 i10_14 i10_15 i10_16 v10 f10
    obtain ⟨M10, rfl⟩ : ∃ m, M10 = m + 60 := ⟨M10 - 60, by omega⟩
    have hr0 := (ok1.f fe_68_10).1
    have hr9 := (ok1.f fe_68_9).2
    have hr13 := (ok1.f fe_68_13)
    refine w_step rfl ?_
    refine w_aload rfl ?_
    refine w_aload rfl ?_
    refine w_getI (g_68_10 _) fe_68_10 ok1 (fun z2 hz2 hl2 hh2 => ?_)
    refine w_callV1I (oj_68 _).choose_spec rfl (e_X9_isFigure ok1 (by omega) (by omega)) ?_
    rintro z3 t3 ⟨rfl, hp3_0⟩
    rcases hp3_0 with ⟨rfl, hp3_0⟩ | ⟨rfl, hp3_0⟩
    · skip
      rw [hz2] at hp3_0
      have es3 := hp3_0
      rw [show tA t1 75 = tA t 75 from funext (fr1.2.1 75 (by simp)), show tI t1 68 9 = tI t 68 9 by omega, so2_iff] at es3
      refine w_ieq (by omega) (fun _ => ?_) (fun h => absurd (by omega) h)
      refine w_step rfl ?_
      have eS : tI t1 68 10 = spF (tA t 75) (tI t 68 9) (skF (tA t 75) (tI t 68 9) 97 (tI t 68 10)) := sp_w2 i10_14 (by omega) i10_15 (by omega) (by omega) (by intro h9; have h8 := h9.2; omega)
      refine w_aload rfl ?_
      refine w_iload rfl ?_
      refine w_ine (by omega) (fun h4 => ?_) (fun h4 => ?_)
      · skip
        refine w_step rfl ?_
        refine w_push kc_4 ?_
        refine w_goto ?_
        refine w_step rfl ?_
        have nv := i10_16
        refine w_putI (p_68_12 _) fe_68_12 ok1 (by omega) (fun t5 ht5 ok5 => ?_)
        have kf5_68_9 : tI t5 68 9 = tI t1 68 9 := by rw [ht5, tI_uI, if_neg (by decide)]
        have kf5_68_10 : tI t5 68 10 = tI t1 68 10 := by rw [ht5, tI_uI, if_neg (by decide)]
        have kf5_68_11 : tI t5 68 11 = tI t1 68 11 := by rw [ht5, tI_uI, if_neg (by decide)]
        have kf5_68_12 : tI t5 68 12 = 4 := by rw [ht5, tI_uI, if_pos ⟨rfl, rfl⟩]
        have kf5_68_13 : tI t5 68 13 = tI t1 68 13 := by rw [ht5, tI_uI, if_neg (by decide)]
        have kf5_68_14 : tI t5 68 14 = tI t1 68 14 := by rw [ht5, tI_uI, if_neg (by decide)]
        have fr5 := fr1.uI ht5 (by simp)
        refine w_aload rfl ?_
        refine w_aload rfl ?_
        refine w_getI (g_68_10 _) fe_68_10 ok5 (fun z6 hz6 hl6 hh6 => ?_)
        refine w_putI (p_68_14 _) fe_68_14 ok5 (by omega) (fun t7 ht7 ok7 => ?_)
        have kf7_68_9 : tI t7 68 9 = tI t5 68 9 := by rw [ht7, tI_uI, if_neg (by decide)]
        have kf7_68_10 : tI t7 68 10 = tI t5 68 10 := by rw [ht7, tI_uI, if_neg (by decide)]
        have kf7_68_11 : tI t7 68 11 = tI t5 68 11 := by rw [ht7, tI_uI, if_neg (by decide)]
        have kf7_68_12 : tI t7 68 12 = tI t5 68 12 := by rw [ht7, tI_uI, if_neg (by decide)]
        have kf7_68_13 : tI t7 68 13 = tI t5 68 13 := by rw [ht7, tI_uI, if_neg (by decide)]
        have kf7_68_14 : tI t7 68 14 = z6 := by rw [ht7, tI_uI, if_pos ⟨rfl, rfl⟩]
        have fr7 := fr5.uI ht7 (by simp)
        have eV : NFp (tA t 75) (tI t7 68 11) (tI t7 68 10) (tI t7 68 13) := by
          rw [show tI t7 68 11 = (skF (tA t 75) (tI t 68 9) 97 (tI t 68 10)) by omega, show tI t7 68 10 = tI t1 68 10 by omega, show tI t7 68 13 = tI t1 68 13 by omega]
          exact nv
        refine w_goto ?_
        refine w_step rfl ?_
        have e0 : tI t7 68 11 = (skF (tA t 75) (tI t 68 9) 97 (tI t 68 10)) := by omega
        refine w_retV ?_
        exact ⟨ok7, fr7, (by omega), (by omega), (by omega), (by omega), (by omega), (cr_mk q1 (funext (fr7.2.1 75 (by simp))) (by omega) e0 (by first | exact Or.inr (Or.inr (Or.inl ⟨by rw [e0]; omega, by rw [e0]; omega, by omega, eV, by omega⟩)) | exact Or.inl ⟨by rw [e0]; omega, by omega, by omega⟩ | exact Or.inr (Or.inl ⟨by rw [e0]; omega, by rw [e0]; omega, by omega, by rw [e0]; omega, by omega⟩) | exact Or.inr (Or.inr (Or.inr ⟨by rw [e0]; omega, by omega, by omega, by rw [e0]; omega, by omega⟩))))⟩
      refine w_aload rfl ?_
      refine w_getI (g_68_10 _) fe_68_10 ok1 (fun z8 hz8 hl8 hh8 => ?_)
      refine w_aload rfl ?_
      refine w_getI (g_68_11 _) fe_68_11 ok1 (fun z9 hz9 hl9 hh9 => ?_)
      refine w_sub ?_
      refine w_push kc_4 ?_
      refine w_cle (by omega) (fun h10 => ?_) (fun h10 => ?_)
      · skip
        refine w_step rfl ?_
        refine w_push kc_2 ?_
        refine w_goto ?_
        refine w_step rfl ?_
        have nv := i10_16
        refine w_putI (p_68_12 _) fe_68_12 ok1 (by omega) (fun t11 ht11 ok11 => ?_)
        have kf11_68_9 : tI t11 68 9 = tI t1 68 9 := by rw [ht11, tI_uI, if_neg (by decide)]
        have kf11_68_10 : tI t11 68 10 = tI t1 68 10 := by rw [ht11, tI_uI, if_neg (by decide)]
        have kf11_68_11 : tI t11 68 11 = tI t1 68 11 := by rw [ht11, tI_uI, if_neg (by decide)]
        have kf11_68_12 : tI t11 68 12 = 2 := by rw [ht11, tI_uI, if_pos ⟨rfl, rfl⟩]
        have kf11_68_13 : tI t11 68 13 = tI t1 68 13 := by rw [ht11, tI_uI, if_neg (by decide)]
        have kf11_68_14 : tI t11 68 14 = tI t1 68 14 := by rw [ht11, tI_uI, if_neg (by decide)]
        have fr11 := fr1.uI ht11 (by simp)
        refine w_aload rfl ?_
        refine w_aload rfl ?_
        refine w_getI (g_68_10 _) fe_68_10 ok11 (fun z12 hz12 hl12 hh12 => ?_)
        refine w_putI (p_68_14 _) fe_68_14 ok11 (by omega) (fun t13 ht13 ok13 => ?_)
        have kf13_68_9 : tI t13 68 9 = tI t11 68 9 := by rw [ht13, tI_uI, if_neg (by decide)]
        have kf13_68_10 : tI t13 68 10 = tI t11 68 10 := by rw [ht13, tI_uI, if_neg (by decide)]
        have kf13_68_11 : tI t13 68 11 = tI t11 68 11 := by rw [ht13, tI_uI, if_neg (by decide)]
        have kf13_68_12 : tI t13 68 12 = tI t11 68 12 := by rw [ht13, tI_uI, if_neg (by decide)]
        have kf13_68_13 : tI t13 68 13 = tI t11 68 13 := by rw [ht13, tI_uI, if_neg (by decide)]
        have kf13_68_14 : tI t13 68 14 = z12 := by rw [ht13, tI_uI, if_pos ⟨rfl, rfl⟩]
        have fr13 := fr11.uI ht13 (by simp)
        have eV : NFp (tA t 75) (tI t13 68 11) (tI t13 68 10) (tI t13 68 13) := by
          rw [show tI t13 68 11 = (skF (tA t 75) (tI t 68 9) 97 (tI t 68 10)) by omega, show tI t13 68 10 = tI t1 68 10 by omega, show tI t13 68 13 = tI t1 68 13 by omega]
          exact nv
        refine w_goto ?_
        refine w_step rfl ?_
        have e0 : tI t13 68 11 = (skF (tA t 75) (tI t 68 9) 97 (tI t 68 10)) := by omega
        refine w_retV ?_
        exact ⟨ok13, fr13, (by omega), (by omega), (by omega), (by omega), (by omega), (cr_mk q1 (funext (fr13.2.1 75 (by simp))) (by omega) e0 (by first | exact Or.inr (Or.inr (Or.inl ⟨by rw [e0]; omega, by rw [e0]; omega, by omega, eV, by omega⟩)) | exact Or.inl ⟨by rw [e0]; omega, by omega, by omega⟩ | exact Or.inr (Or.inl ⟨by rw [e0]; omega, by rw [e0]; omega, by omega, by rw [e0]; omega, by omega⟩) | exact Or.inr (Or.inr (Or.inr ⟨by rw [e0]; omega, by omega, by omega, by rw [e0]; omega, by omega⟩))))⟩
      refine w_goto ?_
      refine w_step rfl ?_
      refine w_push kc_4 ?_
      refine w_goto ?_
      refine w_step rfl ?_
      have nv := i10_16
      refine w_putI (p_68_12 _) fe_68_12 ok1 (by omega) (fun t14 ht14 ok14 => ?_)
      have kf14_68_9 : tI t14 68 9 = tI t1 68 9 := by rw [ht14, tI_uI, if_neg (by decide)]
      have kf14_68_10 : tI t14 68 10 = tI t1 68 10 := by rw [ht14, tI_uI, if_neg (by decide)]
      have kf14_68_11 : tI t14 68 11 = tI t1 68 11 := by rw [ht14, tI_uI, if_neg (by decide)]
      have kf14_68_12 : tI t14 68 12 = 4 := by rw [ht14, tI_uI, if_pos ⟨rfl, rfl⟩]
      have kf14_68_13 : tI t14 68 13 = tI t1 68 13 := by rw [ht14, tI_uI, if_neg (by decide)]
      have kf14_68_14 : tI t14 68 14 = tI t1 68 14 := by rw [ht14, tI_uI, if_neg (by decide)]
      have fr14 := fr1.uI ht14 (by simp)
      refine w_aload rfl ?_
      refine w_aload rfl ?_
      refine w_getI (g_68_10 _) fe_68_10 ok14 (fun z15 hz15 hl15 hh15 => ?_)
      refine w_putI (p_68_14 _) fe_68_14 ok14 (by omega) (fun t16 ht16 ok16 => ?_)
      have kf16_68_9 : tI t16 68 9 = tI t14 68 9 := by rw [ht16, tI_uI, if_neg (by decide)]
      have kf16_68_10 : tI t16 68 10 = tI t14 68 10 := by rw [ht16, tI_uI, if_neg (by decide)]
      have kf16_68_11 : tI t16 68 11 = tI t14 68 11 := by rw [ht16, tI_uI, if_neg (by decide)]
      have kf16_68_12 : tI t16 68 12 = tI t14 68 12 := by rw [ht16, tI_uI, if_neg (by decide)]
      have kf16_68_13 : tI t16 68 13 = tI t14 68 13 := by rw [ht16, tI_uI, if_neg (by decide)]
      have kf16_68_14 : tI t16 68 14 = z15 := by rw [ht16, tI_uI, if_pos ⟨rfl, rfl⟩]
      have fr16 := fr14.uI ht16 (by simp)
      have eV : NFp (tA t 75) (tI t16 68 11) (tI t16 68 10) (tI t16 68 13) := by
        rw [show tI t16 68 11 = (skF (tA t 75) (tI t 68 9) 97 (tI t 68 10)) by omega, show tI t16 68 10 = tI t1 68 10 by omega, show tI t16 68 13 = tI t1 68 13 by omega]
        exact nv
      refine w_goto ?_
      refine w_step rfl ?_
      have e0 : tI t16 68 11 = (skF (tA t 75) (tI t 68 9) 97 (tI t 68 10)) := by omega
      refine w_retV ?_
      exact ⟨ok16, fr16, (by omega), (by omega), (by omega), (by omega), (by omega), (cr_mk q1 (funext (fr16.2.1 75 (by simp))) (by omega) e0 (by first | exact Or.inr (Or.inr (Or.inl ⟨by rw [e0]; omega, by rw [e0]; omega, by omega, eV, by omega⟩)) | exact Or.inl ⟨by rw [e0]; omega, by omega, by omega⟩ | exact Or.inr (Or.inl ⟨by rw [e0]; omega, by rw [e0]; omega, by omega, by rw [e0]; omega, by omega⟩) | exact Or.inr (Or.inr (Or.inr ⟨by rw [e0]; omega, by omega, by omega, by rw [e0]; omega, by omega⟩))))⟩
    rw [hz2] at hp3_0
    have es3 := hp3_0
    rw [show tA t1 75 = tA t 75 from funext (fr1.2.1 75 (by simp)), show tI t1 68 9 = tI t 68 9 by omega, so2_iff] at es3
    refine w_ieq (by omega) (fun h => absurd h (by omega)) (fun _ => ?_)
    refine w_aload rfl ?_
    refine w_aload rfl ?_
    refine w_getI (g_68_10 _) fe_68_10 ok1 (fun z17 hz17 hl17 hh17 => ?_)
    refine w_aload rfl ?_
    refine w_getI (g_68_11 _) fe_68_11 ok1 (fun z18 hz18 hl18 hh18 => ?_)
    refine w_sub ?_
    refine w_push kc_4 ?_
    refine w_cge (by omega) (fun h19 => ?_) (fun h19 => ?_)
    · skip
      refine w_step rfl ?_
      refine w_aload rfl ?_
      refine w_getI (g_68_13 _) fe_68_13 ok1 (fun z20 hz20 hl20 hh20 => ?_)
      refine w_goto ?_
      refine w_step rfl ?_
      refine w_putI (p_68_13 _) fe_68_13 ok1 (by omega) (fun t21 ht21 ok21 => ?_)
      have kf21_68_9 : tI t21 68 9 = tI t1 68 9 := by rw [ht21, tI_uI, if_neg (by decide)]
      have kf21_68_10 : tI t21 68 10 = tI t1 68 10 := by rw [ht21, tI_uI, if_neg (by decide)]
      have kf21_68_11 : tI t21 68 11 = tI t1 68 11 := by rw [ht21, tI_uI, if_neg (by decide)]
      have kf21_68_12 : tI t21 68 12 = tI t1 68 12 := by rw [ht21, tI_uI, if_neg (by decide)]
      have kf21_68_13 : tI t21 68 13 = z20 := by rw [ht21, tI_uI, if_pos ⟨rfl, rfl⟩]
      have kf21_68_14 : tI t21 68 14 = tI t1 68 14 := by rw [ht21, tI_uI, if_neg (by decide)]
      have fr21 := fr1.uI ht21 (by simp)
      refine w_aload rfl ?_
      refine w_dupR ?_
      refine w_getI (g_68_10 _) fe_68_10 ok21 (fun z22 hz22 hl22 hh22 => ?_)
      refine w_push kc_1 ?_
      refine w_add ?_
      refine w_putI (p_68_10 _) fe_68_10 ok21 (by omega) (fun t23 ht23 ok23 => ?_)
      have kf23_68_9 : tI t23 68 9 = tI t21 68 9 := by rw [ht23, tI_uI, if_neg (by decide)]
      have kf23_68_10 : tI t23 68 10 = (z22 + 1) := by rw [ht23, tI_uI, if_pos ⟨rfl, rfl⟩]
      have kf23_68_11 : tI t23 68 11 = tI t21 68 11 := by rw [ht23, tI_uI, if_neg (by decide)]
      have kf23_68_12 : tI t23 68 12 = tI t21 68 12 := by rw [ht23, tI_uI, if_neg (by decide)]
      have kf23_68_13 : tI t23 68 13 = tI t21 68 13 := by rw [ht23, tI_uI, if_neg (by decide)]
      have kf23_68_14 : tI t23 68 14 = tI t21 68 14 := by rw [ht23, tI_uI, if_neg (by decide)]
      have fr23 := fr21.uI ht23 (by simp)
      refine w_goto ?_
      exact ih10 _ cl t23 ok23 fr23 (by omega) (by omega) (by omega) (by omega) (by omega) (by omega) (by intro e9; omega) (by omega) (by omega) (by omega) (by omega) (by omega) (by omega) (by omega) (by omega) (i10_15.sn (by omega) (by omega) (by omega)) (by first | exact nf_k (n := tI t1 68 10) (by omega) (by omega) | exact nf_s i10_16 (by omega) (by omega) (by omega) (by omega)) (by omega) (by omega)
    refine w_push kc_10 ?_
    refine w_aload rfl ?_
    refine w_getI (g_68_13 _) fe_68_13 ok1 (fun z24 hz24 hl24 hh24 => ?_)
    refine w_mul ?_
    refine w_aload rfl ?_
    refine w_getR (g_68_8 _) ?_
    refine w_aload rfl ?_
    refine w_getI (g_68_10 _) fe_68_10 ok1 (fun z25 hz25 hl25 hh25 => ?_)
    refine w_iald (i := (z25).toNat) (ai_75 _) (by omega) (by omega) (ae_75 _) ok1 (fun z26 hz26 hl26 hh26 => ?_)
    rw [hz25] at hz26
    have eb : z26 = tA t 75 (tI t1 68 10).toNat := by
      rw [hz26, fr1.2.1 75 (by simp)]
    refine w_add ?_
    refine w_push kc_48 ?_
    refine w_sub ?_
    refine w_goto ?_
    refine w_step rfl ?_
    refine w_putI (p_68_13 _) fe_68_13 ok1 (by omega) (fun t27 ht27 ok27 => ?_)
    have kf27_68_9 : tI t27 68 9 = tI t1 68 9 := by rw [ht27, tI_uI, if_neg (by decide)]
    have kf27_68_10 : tI t27 68 10 = tI t1 68 10 := by rw [ht27, tI_uI, if_neg (by decide)]
    have kf27_68_11 : tI t27 68 11 = tI t1 68 11 := by rw [ht27, tI_uI, if_neg (by decide)]
    have kf27_68_12 : tI t27 68 12 = tI t1 68 12 := by rw [ht27, tI_uI, if_neg (by decide)]
    have kf27_68_13 : tI t27 68 13 = (((10 * z24) + z26) - 48) := by rw [ht27, tI_uI, if_pos ⟨rfl, rfl⟩]
    have kf27_68_14 : tI t27 68 14 = tI t1 68 14 := by rw [ht27, tI_uI, if_neg (by decide)]
    have fr27 := fr1.uI ht27 (by simp)
    refine w_aload rfl ?_
    refine w_dupR ?_
    refine w_getI (g_68_10 _) fe_68_10 ok27 (fun z28 hz28 hl28 hh28 => ?_)
    refine w_push kc_1 ?_
    refine w_add ?_
    refine w_putI (p_68_10 _) fe_68_10 ok27 (by omega) (fun t29 ht29 ok29 => ?_)
    have kf29_68_9 : tI t29 68 9 = tI t27 68 9 := by rw [ht29, tI_uI, if_neg (by decide)]
    have kf29_68_10 : tI t29 68 10 = (z28 + 1) := by rw [ht29, tI_uI, if_pos ⟨rfl, rfl⟩]
    have kf29_68_11 : tI t29 68 11 = tI t27 68 11 := by rw [ht29, tI_uI, if_neg (by decide)]
    have kf29_68_12 : tI t29 68 12 = tI t27 68 12 := by rw [ht29, tI_uI, if_neg (by decide)]
    have kf29_68_13 : tI t29 68 13 = tI t27 68 13 := by rw [ht29, tI_uI, if_neg (by decide)]
    have kf29_68_14 : tI t29 68 14 = tI t27 68 14 := by rw [ht29, tI_uI, if_neg (by decide)]
    have fr29 := fr27.uI ht29 (by simp)
    refine w_goto ?_
    exact ih10 _ cl t29 ok29 fr29 (by omega) (by omega) (by omega) (by omega) (by omega) (by omega) (by intro e9; omega) (by omega) (by omega) (by omega) (by omega) (by omega) (by omega) (by omega) (by omega) (i10_15.sn (by omega) (by omega) (by omega)) (by first | exact nf_k (n := tI t1 68 10) (by omega) (by omega) | exact nf_s i10_16 (by omega) (by omega) (by omega) (by omega)) (by omega) (by omega)
set_option maxRecDepth 100000 in
set_option maxHeartbeats 4000000 in
theorem e_X9_go_k5 {d : Nat} {t : TS} {c : PCu} (ok : OK t) (q0 : tI t 68 10 ≤ tI t 68 9) (q1 : GO t c) : ∀ (n5 M5 : Nat) (cl : Int) (t30 : TS), OK t30 → Fr [(68, 10), (68, 11), (68, 12), (68, 13), (68, 14)] t t30 → (tI t30 68 9 = tI t 68 9) → (tI t30 68 11 ≤ tI t30 68 10) → (tI t30 68 10 ≤ tI t 68 9) → (tI t 68 10 ≤ tI t30 68 11) → (0 ≤ cl) → (cl ≤ 1) → (tI t30 68 10 = tI t30 68 11 → (tI t30 68 10 < tI t30 68 9 ∧ 97 ≤ tA t30 75 (tI t30 68 10).toNat ∧ tA t30 75 (tI t30 68 10).toNat ≤ 122)) → (tI t30 68 11 = (skF (tA t 75) (tI t 68 9) 97 (tI t 68 10))) → (tI t30 68 14 = tI t 68 14) → ((cl = 1 ∧ (skF (tA t 75) (tI t 68 9) 97 (tI t 68 10)) = tI t 68 14) ∨ (cl = 0 ∧ ¬ (skF (tA t 75) (tI t 68 9) 97 (tI t 68 10)) = tI t 68 14)) → (soF (tA t 75) (tI t 68 9) (skF (tA t 75) (tI t 68 9) 97 (tI t 68 10)) = 1) → (RUp (tA t 75) (tI t 68 9) 1 (skF (tA t 75) (tI t 68 9) 97 (tI t 68 10)) (tI t30 68 10)) → 96 - tI t30 68 10 < (n5 : Int) → 60 * n5 + (1000) ≤ M5 → Rn (bX9_go (EX FU (d + 1))) M5 5 [some (.ref 68), some (.int (jI cl))] [] (mk t30) (PV (fun t' => OK t' ∧ Fr [(68, 10), (68, 11), (68, 12), (68, 13), (68, 14)] t t' ∧ (tI t 68 10 ≤ tI t' 68 11) ∧ (tI t' 68 11 ≤ tI t' 68 10) ∧ (tI t' 68 10 ≤ tI t 68 9) ∧ (tI t' 68 12 = 0 → tI t' 68 11 = tI t 68 9) ∧ (¬ tI t' 68 12 = 0 → tI t' 68 11 < tI t' 68 10) ∧ (CRx t' (stC (tA t 75) (tI t 68 9) c)))) := by
  have hr9t := ok.f fe_68_9
  have hrAt := ok.f fe_68_10
  intro n5
  induction n5 with
  | zero => intro M5 cl t30 ok30 fr30 i5_0 i5_1 i5_2 i5_3 i5_4 i5_5 i5_6 i5_7 i5_8 i5_9 i5_10 i5_11 v5 f5; exfalso; omega
  | succ n5 ih5 =>
    intro M5 cl t30 ok30 fr30 i5_0 i5_1 i5_2 i5_3 i5_4 i5_5 i5_6 i5_7 i5_8 i5_9 i5_10 i5_11 v5 f5
    obtain ⟨M5, rfl⟩ : ∃ m, M5 = m + 60 := ⟨M5 - 60, by omega⟩
    have hr0 := (ok30.f fe_68_10).1
    have hr9 := (ok30.f fe_68_9).2
    refine w_step rfl ?_
    refine w_aload rfl ?_
    refine w_aload rfl ?_
    refine w_getI (g_68_10 _) fe_68_10 ok30 (fun z31 hz31 hl31 hh31 => ?_)
    refine w_callV1I (oj_68 _).choose_spec rfl (e_X9_isLetter ok30 (by omega) (by omega)) ?_
    rintro z32 t32 ⟨rfl, hp32_0⟩
    rcases hp32_0 with ⟨rfl, hp32_0⟩ | ⟨rfl, hp32_0⟩
    · skip
      rw [hz31] at hp32_0
      have es32 := hp32_0
      rw [show tA t30 75 = tA t 75 from funext (fr30.2.1 75 (by simp)), show tI t30 68 9 = tI t 68 9 by omega, so1_iff] at es32
      refine w_ieq (by omega) (fun _ => ?_) (fun h => absurd (by omega) h)
      refine w_step rfl ?_
      have eS : tI t30 68 10 = spF (tA t 75) (tI t 68 9) (skF (tA t 75) (tI t 68 9) 97 (tI t 68 10)) := sp_w2 i5_10 (by omega) i5_11 (by omega) (by omega) (by intro h9; have h8 := h9.2; omega)
      refine w_aload rfl ?_
      refine w_iload rfl ?_
      refine w_ieq (by omega) (fun h33 => ?_) (fun h33 => ?_)
      · skip
        refine w_step rfl ?_
        refine w_push kc_1 ?_
        refine w_goto ?_
        refine w_step rfl ?_
        refine w_putI (p_68_12 _) fe_68_12 ok30 (by omega) (fun t34 ht34 ok34 => ?_)
        have kf34_68_9 : tI t34 68 9 = tI t30 68 9 := by rw [ht34, tI_uI, if_neg (by decide)]
        have kf34_68_10 : tI t34 68 10 = tI t30 68 10 := by rw [ht34, tI_uI, if_neg (by decide)]
        have kf34_68_11 : tI t34 68 11 = tI t30 68 11 := by rw [ht34, tI_uI, if_neg (by decide)]
        have kf34_68_12 : tI t34 68 12 = 1 := by rw [ht34, tI_uI, if_pos ⟨rfl, rfl⟩]
        have kf34_68_13 : tI t34 68 13 = tI t30 68 13 := by rw [ht34, tI_uI, if_neg (by decide)]
        have kf34_68_14 : tI t34 68 14 = tI t30 68 14 := by rw [ht34, tI_uI, if_neg (by decide)]
        have fr34 := fr30.uI ht34 (by simp)
        refine w_aload rfl ?_
        refine w_aload rfl ?_
        refine w_getR (g_68_8 _) ?_
        refine w_aload rfl ?_
        refine w_getI (g_68_11 _) fe_68_11 ok34 (fun z35 hz35 hl35 hh35 => ?_)
        refine w_iald (i := (z35).toNat) (ai_75 _) (by omega) (by omega) (ae_75 _) ok34 (fun z36 hz36 hl36 hh36 => ?_)
        rw [hz35] at hz36
        have e13 : z36 = tA t 75 (skF (tA t 75) (tI t 68 9) 97 (tI t 68 10)).toNat := by
          rw [hz36, fr34.2.1 75 (by simp)]
          congr 2 <;> omega
        refine w_putI (p_68_13 _) fe_68_13 ok34 (by omega) (fun t37 ht37 ok37 => ?_)
        have kf37_68_9 : tI t37 68 9 = tI t34 68 9 := by rw [ht37, tI_uI, if_neg (by decide)]
        have kf37_68_10 : tI t37 68 10 = tI t34 68 10 := by rw [ht37, tI_uI, if_neg (by decide)]
        have kf37_68_11 : tI t37 68 11 = tI t34 68 11 := by rw [ht37, tI_uI, if_neg (by decide)]
        have kf37_68_12 : tI t37 68 12 = tI t34 68 12 := by rw [ht37, tI_uI, if_neg (by decide)]
        have kf37_68_13 : tI t37 68 13 = z36 := by rw [ht37, tI_uI, if_pos ⟨rfl, rfl⟩]
        have kf37_68_14 : tI t37 68 14 = tI t34 68 14 := by rw [ht37, tI_uI, if_neg (by decide)]
        have fr37 := fr34.uI ht37 (by simp)
        refine w_aload rfl ?_
        refine w_aload rfl ?_
        refine w_getI (g_68_10 _) fe_68_10 ok37 (fun z38 hz38 hl38 hh38 => ?_)
        refine w_putI (p_68_14 _) fe_68_14 ok37 (by omega) (fun t39 ht39 ok39 => ?_)
        have kf39_68_9 : tI t39 68 9 = tI t37 68 9 := by rw [ht39, tI_uI, if_neg (by decide)]
        have kf39_68_10 : tI t39 68 10 = tI t37 68 10 := by rw [ht39, tI_uI, if_neg (by decide)]
        have kf39_68_11 : tI t39 68 11 = tI t37 68 11 := by rw [ht39, tI_uI, if_neg (by decide)]
        have kf39_68_12 : tI t39 68 12 = tI t37 68 12 := by rw [ht39, tI_uI, if_neg (by decide)]
        have kf39_68_13 : tI t39 68 13 = tI t37 68 13 := by rw [ht39, tI_uI, if_neg (by decide)]
        have kf39_68_14 : tI t39 68 14 = z38 := by rw [ht39, tI_uI, if_pos ⟨rfl, rfl⟩]
        have fr39 := fr37.uI ht39 (by simp)
        refine w_goto ?_
        refine w_step rfl ?_
        have e0 : tI t39 68 11 = (skF (tA t 75) (tI t 68 9) 97 (tI t 68 10)) := by omega
        refine w_retV ?_
        exact ⟨ok39, fr39, (by omega), (by omega), (by omega), (by omega), (by omega), (cr_mk q1 (funext (fr39.2.1 75 (by simp))) (by omega) e0 (by first | exact Or.inr (Or.inl ⟨by rw [e0]; omega, by rw [e0]; omega, by omega, by rw [e0]; omega, by omega⟩) | exact Or.inl ⟨by rw [e0]; omega, by omega, by omega⟩ | exact Or.inr (Or.inr (Or.inl ⟨by rw [e0]; omega, by rw [e0]; omega, by omega, eV, by omega⟩)) | exact Or.inr (Or.inr (Or.inr ⟨by rw [e0]; omega, by omega, by omega, by rw [e0]; omega, by omega⟩))))⟩
      refine w_push kc_4 ?_
      refine w_goto ?_
      refine w_step rfl ?_
      refine w_putI (p_68_12 _) fe_68_12 ok30 (by omega) (fun t40 ht40 ok40 => ?_)
      have kf40_68_9 : tI t40 68 9 = tI t30 68 9 := by rw [ht40, tI_uI, if_neg (by decide)]
      have kf40_68_10 : tI t40 68 10 = tI t30 68 10 := by rw [ht40, tI_uI, if_neg (by decide)]
      have kf40_68_11 : tI t40 68 11 = tI t30 68 11 := by rw [ht40, tI_uI, if_neg (by decide)]
      have kf40_68_12 : tI t40 68 12 = 4 := by rw [ht40, tI_uI, if_pos ⟨rfl, rfl⟩]
      have kf40_68_13 : tI t40 68 13 = tI t30 68 13 := by rw [ht40, tI_uI, if_neg (by decide)]
      have kf40_68_14 : tI t40 68 14 = tI t30 68 14 := by rw [ht40, tI_uI, if_neg (by decide)]
      have fr40 := fr30.uI ht40 (by simp)
      refine w_aload rfl ?_
      refine w_aload rfl ?_
      refine w_getR (g_68_8 _) ?_
      refine w_aload rfl ?_
      refine w_getI (g_68_11 _) fe_68_11 ok40 (fun z41 hz41 hl41 hh41 => ?_)
      refine w_iald (i := (z41).toNat) (ai_75 _) (by omega) (by omega) (ae_75 _) ok40 (fun z42 hz42 hl42 hh42 => ?_)
      rw [hz41] at hz42
      have e13 : z42 = tA t 75 (skF (tA t 75) (tI t 68 9) 97 (tI t 68 10)).toNat := by
        rw [hz42, fr40.2.1 75 (by simp)]
        congr 2 <;> omega
      refine w_putI (p_68_13 _) fe_68_13 ok40 (by omega) (fun t43 ht43 ok43 => ?_)
      have kf43_68_9 : tI t43 68 9 = tI t40 68 9 := by rw [ht43, tI_uI, if_neg (by decide)]
      have kf43_68_10 : tI t43 68 10 = tI t40 68 10 := by rw [ht43, tI_uI, if_neg (by decide)]
      have kf43_68_11 : tI t43 68 11 = tI t40 68 11 := by rw [ht43, tI_uI, if_neg (by decide)]
      have kf43_68_12 : tI t43 68 12 = tI t40 68 12 := by rw [ht43, tI_uI, if_neg (by decide)]
      have kf43_68_13 : tI t43 68 13 = z42 := by rw [ht43, tI_uI, if_pos ⟨rfl, rfl⟩]
      have kf43_68_14 : tI t43 68 14 = tI t40 68 14 := by rw [ht43, tI_uI, if_neg (by decide)]
      have fr43 := fr40.uI ht43 (by simp)
      refine w_aload rfl ?_
      refine w_aload rfl ?_
      refine w_getI (g_68_10 _) fe_68_10 ok43 (fun z44 hz44 hl44 hh44 => ?_)
      refine w_putI (p_68_14 _) fe_68_14 ok43 (by omega) (fun t45 ht45 ok45 => ?_)
      have kf45_68_9 : tI t45 68 9 = tI t43 68 9 := by rw [ht45, tI_uI, if_neg (by decide)]
      have kf45_68_10 : tI t45 68 10 = tI t43 68 10 := by rw [ht45, tI_uI, if_neg (by decide)]
      have kf45_68_11 : tI t45 68 11 = tI t43 68 11 := by rw [ht45, tI_uI, if_neg (by decide)]
      have kf45_68_12 : tI t45 68 12 = tI t43 68 12 := by rw [ht45, tI_uI, if_neg (by decide)]
      have kf45_68_13 : tI t45 68 13 = tI t43 68 13 := by rw [ht45, tI_uI, if_neg (by decide)]
      have kf45_68_14 : tI t45 68 14 = z44 := by rw [ht45, tI_uI, if_pos ⟨rfl, rfl⟩]
      have fr45 := fr43.uI ht45 (by simp)
      refine w_goto ?_
      refine w_step rfl ?_
      have e0 : tI t45 68 11 = (skF (tA t 75) (tI t 68 9) 97 (tI t 68 10)) := by omega
      refine w_retV ?_
      exact ⟨ok45, fr45, (by omega), (by omega), (by omega), (by omega), (by omega), (cr_mk q1 (funext (fr45.2.1 75 (by simp))) (by omega) e0 (by first | exact Or.inr (Or.inl ⟨by rw [e0]; omega, by rw [e0]; omega, by omega, by rw [e0]; omega, by omega⟩) | exact Or.inl ⟨by rw [e0]; omega, by omega, by omega⟩ | exact Or.inr (Or.inr (Or.inl ⟨by rw [e0]; omega, by rw [e0]; omega, by omega, eV, by omega⟩)) | exact Or.inr (Or.inr (Or.inr ⟨by rw [e0]; omega, by omega, by omega, by rw [e0]; omega, by omega⟩))))⟩
    rw [hz31] at hp32_0
    have es32 := hp32_0
    rw [show tA t30 75 = tA t 75 from funext (fr30.2.1 75 (by simp)), show tI t30 68 9 = tI t 68 9 by omega, so1_iff] at es32
    refine w_ieq (by omega) (fun h => absurd h (by omega)) (fun _ => ?_)
    refine w_aload rfl ?_
    refine w_dupR ?_
    refine w_getI (g_68_10 _) fe_68_10 ok30 (fun z46 hz46 hl46 hh46 => ?_)
    refine w_push kc_1 ?_
    refine w_add ?_
    refine w_putI (p_68_10 _) fe_68_10 ok30 (by omega) (fun t47 ht47 ok47 => ?_)
    have kf47_68_9 : tI t47 68 9 = tI t30 68 9 := by rw [ht47, tI_uI, if_neg (by decide)]
    have kf47_68_10 : tI t47 68 10 = (z46 + 1) := by rw [ht47, tI_uI, if_pos ⟨rfl, rfl⟩]
    have kf47_68_11 : tI t47 68 11 = tI t30 68 11 := by rw [ht47, tI_uI, if_neg (by decide)]
    have kf47_68_12 : tI t47 68 12 = tI t30 68 12 := by rw [ht47, tI_uI, if_neg (by decide)]
    have kf47_68_13 : tI t47 68 13 = tI t30 68 13 := by rw [ht47, tI_uI, if_neg (by decide)]
    have kf47_68_14 : tI t47 68 14 = tI t30 68 14 := by rw [ht47, tI_uI, if_neg (by decide)]
    have fr47 := fr30.uI ht47 (by simp)
    refine w_goto ?_
    exact ih5 _ cl t47 ok47 fr47 (by omega) (by omega) (by omega) (by omega) (by omega) (by omega) (by intro e9; omega) (by omega) (by omega) (by omega) (by omega) (i5_11.sn (by omega) (by omega) (by omega)) (by omega) (by omega)
set_option maxRecDepth 100000 in
set_option maxHeartbeats 4000000 in
theorem e_X9_go_k4 {d : Nat} {t : TS} {c : PCu} (ok : OK t) (q0 : tI t 68 10 ≤ tI t 68 9) (q1 : GO t c) : ∀ (M4 : Nat) (cl : Int) (t48 : TS), OK t48 → Fr [(68, 10), (68, 11), (68, 12), (68, 13), (68, 14)] t t48 → (tI t48 68 9 = tI t 68 9) → (tI t48 68 11 = tI t48 68 10) → (tI t48 68 10 < tI t 68 9) → (tI t 68 10 ≤ tI t48 68 11) → (0 ≤ cl) → (cl ≤ 1) → (tI t48 68 11 = (skF (tA t 75) (tI t 68 9) 97 (tI t 68 10))) → (tI t48 68 14 = tI t 68 14) → ((cl = 1 ∧ (skF (tA t 75) (tI t 68 9) 97 (tI t 68 10)) = tI t 68 14) ∨ (cl = 0 ∧ ¬ (skF (tA t 75) (tI t 68 9) 97 (tI t 68 10)) = tI t 68 14)) → 20000 ≤ M4 → Rn (bX9_go (EX FU (d + 1))) M4 4 [some (.ref 68), some (.int (jI cl))] [] (mk t48) (PV (fun t' => OK t' ∧ Fr [(68, 10), (68, 11), (68, 12), (68, 13), (68, 14)] t t' ∧ (tI t 68 10 ≤ tI t' 68 11) ∧ (tI t' 68 11 ≤ tI t' 68 10) ∧ (tI t' 68 10 ≤ tI t 68 9) ∧ (tI t' 68 12 = 0 → tI t' 68 11 = tI t 68 9) ∧ (¬ tI t' 68 12 = 0 → tI t' 68 11 < tI t' 68 10) ∧ (CRx t' (stC (tA t 75) (tI t 68 9) c)))) := by
  have hr9t := ok.f fe_68_9
  have hrAt := ok.f fe_68_10
  intro M4 cl t48 ok48 fr48 i4_0 i4_1 i4_2 i4_3 i4_4 i4_5 i4_6 i4_7 i4_8 f4
  obtain ⟨M4, rfl⟩ : ∃ m, M4 = m + 60 := ⟨M4 - 60, by omega⟩
  have hr0 := (ok48.f fe_68_10).1
  have hr9 := (ok48.f fe_68_9).2
  have eo := soF_b (tA t 75) (tI t 68 9) (skF (tA t 75) (tI t 68 9) 97 (tI t 68 10))
  refine w_step rfl ?_
  refine w_aload rfl ?_
  refine w_aload rfl ?_
  refine w_getI (g_68_11 _) fe_68_11 ok48 (fun z49 hz49 hl49 hh49 => ?_)
  refine w_callV1I (oj_68 _).choose_spec rfl (e_X9_isLetter ok48 (by omega) (by omega)) ?_
  rintro z50 t50 ⟨rfl, hp50_0⟩
  rcases hp50_0 with ⟨rfl, hp50_0⟩ | ⟨rfl, hp50_0⟩
  · skip
    rw [hz49] at hp50_0
    have es50 := hp50_0
    rw [show tA t48 75 = tA t 75 from funext (fr48.2.1 75 (by simp)), show tI t48 68 11 = (skF (tA t 75) (tI t 68 9) 97 (tI t 68 10)) by omega, show tI t48 68 9 = tI t 68 9 by omega, so1_iff] at es50
    refine w_ieq (by omega) (fun _ => ?_) (fun h => absurd (by omega) h)
    refine w_step rfl ?_
    refine w_aload rfl ?_
    refine w_aload rfl ?_
    refine w_getI (g_68_11 _) fe_68_11 ok48 (fun z51 hz51 hl51 hh51 => ?_)
    refine w_callV1I (oj_68 _).choose_spec rfl (e_X9_isFigure ok48 (by omega) (by omega)) ?_
    rintro z52 t52 ⟨rfl, hp52_0⟩
    rcases hp52_0 with ⟨rfl, hp52_0⟩ | ⟨rfl, hp52_0⟩
    · skip
      rw [hz51] at hp52_0
      have es52 := hp52_0
      rw [show tA t48 75 = tA t 75 from funext (fr48.2.1 75 (by simp)), show tI t48 68 11 = (skF (tA t 75) (tI t 68 9) 97 (tI t 68 10)) by omega, show tI t48 68 9 = tI t 68 9 by omega, so2_iff] at es52
      refine w_ieq (by omega) (fun _ => ?_) (fun h => absurd (by omega) h)
      refine w_step rfl ?_
      refine w_aload rfl ?_
      refine w_push kc_3 ?_
      refine w_putI (p_68_12 _) fe_68_12 ok48 (by omega) (fun t53 ht53 ok53 => ?_)
      have kf53_68_9 : tI t53 68 9 = tI t48 68 9 := by rw [ht53, tI_uI, if_neg (by decide)]
      have kf53_68_10 : tI t53 68 10 = tI t48 68 10 := by rw [ht53, tI_uI, if_neg (by decide)]
      have kf53_68_11 : tI t53 68 11 = tI t48 68 11 := by rw [ht53, tI_uI, if_neg (by decide)]
      have kf53_68_12 : tI t53 68 12 = 3 := by rw [ht53, tI_uI, if_pos ⟨rfl, rfl⟩]
      have kf53_68_13 : tI t53 68 13 = tI t48 68 13 := by rw [ht53, tI_uI, if_neg (by decide)]
      have kf53_68_14 : tI t53 68 14 = tI t48 68 14 := by rw [ht53, tI_uI, if_neg (by decide)]
      have fr53 := fr48.uI ht53 (by simp)
      refine w_aload rfl ?_
      refine w_aload rfl ?_
      refine w_getR (g_68_8 _) ?_
      refine w_aload rfl ?_
      refine w_getI (g_68_11 _) fe_68_11 ok53 (fun z54 hz54 hl54 hh54 => ?_)
      refine w_iald (i := (z54).toNat) (ai_75 _) (by omega) (by omega) (ae_75 _) ok53 (fun z55 hz55 hl55 hh55 => ?_)
      rw [hz54] at hz55
      have e13 : z55 = tA t 75 (skF (tA t 75) (tI t 68 9) 97 (tI t 68 10)).toNat := by
        rw [hz55, fr53.2.1 75 (by simp)]
        congr 2 <;> omega
      refine w_putI (p_68_13 _) fe_68_13 ok53 (by omega) (fun t56 ht56 ok56 => ?_)
      have kf56_68_9 : tI t56 68 9 = tI t53 68 9 := by rw [ht56, tI_uI, if_neg (by decide)]
      have kf56_68_10 : tI t56 68 10 = tI t53 68 10 := by rw [ht56, tI_uI, if_neg (by decide)]
      have kf56_68_11 : tI t56 68 11 = tI t53 68 11 := by rw [ht56, tI_uI, if_neg (by decide)]
      have kf56_68_12 : tI t56 68 12 = tI t53 68 12 := by rw [ht56, tI_uI, if_neg (by decide)]
      have kf56_68_13 : tI t56 68 13 = z55 := by rw [ht56, tI_uI, if_pos ⟨rfl, rfl⟩]
      have kf56_68_14 : tI t56 68 14 = tI t53 68 14 := by rw [ht56, tI_uI, if_neg (by decide)]
      have fr56 := fr53.uI ht56 (by simp)
      refine w_aload rfl ?_
      refine w_dupR ?_
      refine w_getI (g_68_10 _) fe_68_10 ok56 (fun z57 hz57 hl57 hh57 => ?_)
      refine w_push kc_1 ?_
      refine w_add ?_
      refine w_putI (p_68_10 _) fe_68_10 ok56 (by omega) (fun t58 ht58 ok58 => ?_)
      have kf58_68_9 : tI t58 68 9 = tI t56 68 9 := by rw [ht58, tI_uI, if_neg (by decide)]
      have kf58_68_10 : tI t58 68 10 = (z57 + 1) := by rw [ht58, tI_uI, if_pos ⟨rfl, rfl⟩]
      have kf58_68_11 : tI t58 68 11 = tI t56 68 11 := by rw [ht58, tI_uI, if_neg (by decide)]
      have kf58_68_12 : tI t58 68 12 = tI t56 68 12 := by rw [ht58, tI_uI, if_neg (by decide)]
      have kf58_68_13 : tI t58 68 13 = tI t56 68 13 := by rw [ht58, tI_uI, if_neg (by decide)]
      have kf58_68_14 : tI t58 68 14 = tI t56 68 14 := by rw [ht58, tI_uI, if_neg (by decide)]
      have fr58 := fr56.uI ht58 (by simp)
      refine w_goto ?_
      refine w_step rfl ?_
      have e0 : tI t58 68 11 = (skF (tA t 75) (tI t 68 9) 97 (tI t 68 10)) := by omega
      refine w_retV ?_
      exact ⟨ok58, fr58, (by omega), (by omega), (by omega), (by omega), (by omega), (cr_mk q1 (funext (fr58.2.1 75 (by simp))) (by omega) e0 (by first | exact Or.inr (Or.inr (Or.inr ⟨by rw [e0]; omega, by omega, by omega, by rw [e0]; omega, by omega⟩)) | exact Or.inl ⟨by rw [e0]; omega, by omega, by omega⟩ | exact Or.inr (Or.inl ⟨by rw [e0]; omega, by rw [e0]; omega, by omega, by rw [e0]; omega, by omega⟩) | exact Or.inr (Or.inr (Or.inl ⟨by rw [e0]; omega, by rw [e0]; omega, by omega, eV, by omega⟩))))⟩
    rw [hz51] at hp52_0
    have es52 := hp52_0
    rw [show tA t48 75 = tA t 75 from funext (fr48.2.1 75 (by simp)), show tI t48 68 11 = (skF (tA t 75) (tI t 68 9) 97 (tI t 68 10)) by omega, show tI t48 68 9 = tI t 68 9 by omega, so2_iff] at es52
    refine w_ieq (by omega) (fun h => absurd h (by omega)) (fun _ => ?_)
    refine w_aload rfl ?_
    refine w_push kc_0 ?_
    refine w_putI (p_68_13 _) fe_68_13 ok48 (by omega) (fun t59 ht59 ok59 => ?_)
    have kf59_68_9 : tI t59 68 9 = tI t48 68 9 := by rw [ht59, tI_uI, if_neg (by decide)]
    have kf59_68_10 : tI t59 68 10 = tI t48 68 10 := by rw [ht59, tI_uI, if_neg (by decide)]
    have kf59_68_11 : tI t59 68 11 = tI t48 68 11 := by rw [ht59, tI_uI, if_neg (by decide)]
    have kf59_68_12 : tI t59 68 12 = tI t48 68 12 := by rw [ht59, tI_uI, if_neg (by decide)]
    have kf59_68_13 : tI t59 68 13 = 0 := by rw [ht59, tI_uI, if_pos ⟨rfl, rfl⟩]
    have kf59_68_14 : tI t59 68 14 = tI t48 68 14 := by rw [ht59, tI_uI, if_neg (by decide)]
    have fr59 := fr48.uI ht59 (by simp)
    have hq9 : 48 ≤ tA t59 75 (tI t59 68 11).toNat ∧ tA t59 75 (tI t59 68 11).toNat ≤ 57 := by rw [ht59, tA_uI, tI_uI, if_neg (by decide)]; omega
    refine w_goto ?_
    have hr0 := (ok59.f fe_68_10).1
    exact e_X9_go_k10 (d := d) ok q0 q1 97 _ cl t59 ok59 fr59 (by omega) (by omega) (by omega) (by omega) (by omega) (by omega) (by intro e9; rw [e9]; omega) (by omega) (by omega) (by omega) (by omega) (by omega) (by omega) (by omega) (by omega) (fun i h1 h2 => by omega) (nf_0 (by omega) (by omega)) (by omega) (by omega)
  rw [hz49] at hp50_0
  have es50 := hp50_0
  rw [show tA t48 75 = tA t 75 from funext (fr48.2.1 75 (by simp)), show tI t48 68 11 = (skF (tA t 75) (tI t 68 9) 97 (tI t 68 10)) by omega, show tI t48 68 9 = tI t 68 9 by omega, so1_iff] at es50
  refine w_ieq (by omega) (fun h => absurd h (by omega)) (fun _ => ?_)
  refine w_goto ?_
  have hr0 := (ok48.f fe_68_10).1
  exact e_X9_go_k5 (d := d) ok q0 q1 97 _ cl t48 ok48 fr48 (by omega) (by omega) (by omega) (by omega) (by omega) (by omega) (by intro e9; rw [e9]; omega) (by omega) (by omega) (by omega) (by omega) (fun i h1 h2 => by omega) (by omega) (by omega)
set_option maxRecDepth 100000 in
set_option maxHeartbeats 4000000 in
theorem e_X9_go_k0 {d : Nat} {t : TS} {c : PCu} (ok : OK t) (q0 : tI t 68 10 ≤ tI t 68 9) (q1 : GO t c) : ∀ (n0 M0 : Nat) (t60 : TS), OK t60 → Fr [(68, 10), (68, 11), (68, 12), (68, 13), (68, 14)] t t60 → (tI t60 68 9 = tI t 68 9) → (tI t 68 10 ≤ tI t60 68 10) → (tI t60 68 10 ≤ tI t 68 9) → (tI t60 68 14 = tI t 68 14) → (SKp (tA t 75) (tI t 68 9) (tI t 68 10) (tI t60 68 10)) → 96 - tI t60 68 10 < (n0 : Int) → 60 * n0 + (50000) ≤ M0 → Rn (bX9_go (EX FU (d + 1))) M0 0 [some (.ref 68), none] [] (mk t60) (PV (fun t' => OK t' ∧ Fr [(68, 10), (68, 11), (68, 12), (68, 13), (68, 14)] t t' ∧ (tI t 68 10 ≤ tI t' 68 11) ∧ (tI t' 68 11 ≤ tI t' 68 10) ∧ (tI t' 68 10 ≤ tI t 68 9) ∧ (tI t' 68 12 = 0 → tI t' 68 11 = tI t 68 9) ∧ (¬ tI t' 68 12 = 0 → tI t' 68 11 < tI t' 68 10) ∧ (CRx t' (stC (tA t 75) (tI t 68 9) c)))) := by
  have hr9t := ok.f fe_68_9
  have hrAt := ok.f fe_68_10
  intro n0
  induction n0 with
  | zero => intro M0 t60 ok60 fr60 i0_0 i0_1 i0_2 i0_3 i0_4 v0 f0; exfalso; omega
  | succ n0 ih0 =>
    intro M0 t60 ok60 fr60 i0_0 i0_1 i0_2 i0_3 i0_4 v0 f0
    obtain ⟨M0, rfl⟩ : ∃ m, M0 = m + 60 := ⟨M0 - 60, by omega⟩
    have hr0 := (ok60.f fe_68_10).1
    have hr9 := (ok60.f fe_68_9).2
    refine w_step rfl ?_
    refine w_aload rfl ?_
    refine w_getI (g_68_10 _) fe_68_10 ok60 (fun z61 hz61 hl61 hh61 => ?_)
    refine w_aload rfl ?_
    refine w_getI (g_68_9 _) fe_68_9 ok60 (fun z62 hz62 hl62 hh62 => ?_)
    refine w_cge (by omega) (fun h63 => ?_) (fun h63 => ?_)
    · skip
      refine w_step rfl ?_
      have eA : tI t60 68 10 = (skF (tA t 75) (tI t 68 9) 97 (tI t 68 10)) := (skF_e 97 _ (by omega) (by omega) i0_4 (by intro h9; have h8 := h9.1; have h7 := h9.2; omega)).symm
      have eo := soF_b (tA t 75) (tI t 68 9) (skF (tA t 75) (tI t 68 9) 97 (tI t 68 10))
      refine w_aload rfl ?_
      refine w_aload rfl ?_
      refine w_getI (g_68_10 _) fe_68_10 ok60 (fun z64 hz64 hl64 hh64 => ?_)
      refine w_putI (p_68_11 _) fe_68_11 ok60 (by omega) (fun t65 ht65 ok65 => ?_)
      have kf65_68_9 : tI t65 68 9 = tI t60 68 9 := by rw [ht65, tI_uI, if_neg (by decide)]
      have kf65_68_10 : tI t65 68 10 = tI t60 68 10 := by rw [ht65, tI_uI, if_neg (by decide)]
      have kf65_68_11 : tI t65 68 11 = z64 := by rw [ht65, tI_uI, if_pos ⟨rfl, rfl⟩]
      have kf65_68_12 : tI t65 68 12 = tI t60 68 12 := by rw [ht65, tI_uI, if_neg (by decide)]
      have kf65_68_13 : tI t65 68 13 = tI t60 68 13 := by rw [ht65, tI_uI, if_neg (by decide)]
      have kf65_68_14 : tI t65 68 14 = tI t60 68 14 := by rw [ht65, tI_uI, if_neg (by decide)]
      have fr65 := fr60.uI ht65 (by simp)
      refine w_aload rfl ?_
      refine w_getI (g_68_11 _) fe_68_11 ok65 (fun z66 hz66 hl66 hh66 => ?_)
      refine w_aload rfl ?_
      refine w_getI (g_68_14 _) fe_68_14 ok65 (fun z67 hz67 hl67 hh67 => ?_)
      refine w_cne (by omega) (fun h68 => ?_) (fun h68 => ?_)
      · skip
        refine w_step rfl ?_
        refine w_push kc_0 ?_
        refine w_goto ?_
        refine w_step rfl ?_
        refine w_istore (lv' := [some (.ref 68), some (.int (jI 0))]) rfl ?_
        refine w_aload rfl ?_
        refine w_getI (g_68_11 _) fe_68_11 ok65 (fun z69 hz69 hl69 hh69 => ?_)
        refine w_aload rfl ?_
        refine w_getI (g_68_9 _) fe_68_9 ok65 (fun z70 hz70 hl70 hh70 => ?_)
        refine w_cne (by omega) (fun h71 => ?_) (fun h71 => ?_)
        · skip
          exact e_X9_go_k4 (d := d) ok q0 q1  _ 0 t65 ok65 fr65 (by omega) (by omega) (by omega) (by omega) (by omega) (by omega) (by omega) (by omega) (by omega)  (by omega)
        refine w_aload rfl ?_
        refine w_push kc_0 ?_
        refine w_putI (p_68_12 _) fe_68_12 ok65 (by omega) (fun t72 ht72 ok72 => ?_)
        have kf72_68_9 : tI t72 68 9 = tI t65 68 9 := by rw [ht72, tI_uI, if_neg (by decide)]
        have kf72_68_10 : tI t72 68 10 = tI t65 68 10 := by rw [ht72, tI_uI, if_neg (by decide)]
        have kf72_68_11 : tI t72 68 11 = tI t65 68 11 := by rw [ht72, tI_uI, if_neg (by decide)]
        have kf72_68_12 : tI t72 68 12 = 0 := by rw [ht72, tI_uI, if_pos ⟨rfl, rfl⟩]
        have kf72_68_13 : tI t72 68 13 = tI t65 68 13 := by rw [ht72, tI_uI, if_neg (by decide)]
        have kf72_68_14 : tI t72 68 14 = tI t65 68 14 := by rw [ht72, tI_uI, if_neg (by decide)]
        have fr72 := fr65.uI ht72 (by simp)
        refine w_goto ?_
        refine w_step rfl ?_
        have e0 : tI t72 68 11 = (skF (tA t 75) (tI t 68 9) 97 (tI t 68 10)) := by omega
        refine w_retV ?_
        exact ⟨ok72, fr72, (by omega), (by omega), (by omega), (by omega), (by omega), (cr_mk q1 (funext (fr72.2.1 75 (by simp))) (by omega) e0 (by first | exact Or.inl ⟨by rw [e0]; omega, by omega, by omega⟩ | exact Or.inr (Or.inl ⟨by rw [e0]; omega, by rw [e0]; omega, by omega, by rw [e0]; omega, by omega⟩) | exact Or.inr (Or.inr (Or.inl ⟨by rw [e0]; omega, by rw [e0]; omega, by omega, eV, by omega⟩)) | exact Or.inr (Or.inr (Or.inr ⟨by rw [e0]; omega, by omega, by omega, by rw [e0]; omega, by omega⟩))))⟩
      refine w_push kc_1 ?_
      refine w_goto ?_
      refine w_step rfl ?_
      refine w_istore (lv' := [some (.ref 68), some (.int (jI 1))]) rfl ?_
      refine w_aload rfl ?_
      refine w_getI (g_68_11 _) fe_68_11 ok65 (fun z73 hz73 hl73 hh73 => ?_)
      refine w_aload rfl ?_
      refine w_getI (g_68_9 _) fe_68_9 ok65 (fun z74 hz74 hl74 hh74 => ?_)
      refine w_cne (by omega) (fun h75 => ?_) (fun h75 => ?_)
      · skip
        exact e_X9_go_k4 (d := d) ok q0 q1  _ 1 t65 ok65 fr65 (by omega) (by omega) (by omega) (by omega) (by omega) (by omega) (by omega) (by omega) (by omega)  (by omega)
      refine w_aload rfl ?_
      refine w_push kc_0 ?_
      refine w_putI (p_68_12 _) fe_68_12 ok65 (by omega) (fun t76 ht76 ok76 => ?_)
      have kf76_68_9 : tI t76 68 9 = tI t65 68 9 := by rw [ht76, tI_uI, if_neg (by decide)]
      have kf76_68_10 : tI t76 68 10 = tI t65 68 10 := by rw [ht76, tI_uI, if_neg (by decide)]
      have kf76_68_11 : tI t76 68 11 = tI t65 68 11 := by rw [ht76, tI_uI, if_neg (by decide)]
      have kf76_68_12 : tI t76 68 12 = 0 := by rw [ht76, tI_uI, if_pos ⟨rfl, rfl⟩]
      have kf76_68_13 : tI t76 68 13 = tI t65 68 13 := by rw [ht76, tI_uI, if_neg (by decide)]
      have kf76_68_14 : tI t76 68 14 = tI t65 68 14 := by rw [ht76, tI_uI, if_neg (by decide)]
      have fr76 := fr65.uI ht76 (by simp)
      refine w_goto ?_
      refine w_step rfl ?_
      have e0 : tI t76 68 11 = (skF (tA t 75) (tI t 68 9) 97 (tI t 68 10)) := by omega
      refine w_retV ?_
      exact ⟨ok76, fr76, (by omega), (by omega), (by omega), (by omega), (by omega), (cr_mk q1 (funext (fr76.2.1 75 (by simp))) (by omega) e0 (by first | exact Or.inl ⟨by rw [e0]; omega, by omega, by omega⟩ | exact Or.inr (Or.inl ⟨by rw [e0]; omega, by rw [e0]; omega, by omega, by rw [e0]; omega, by omega⟩) | exact Or.inr (Or.inr (Or.inl ⟨by rw [e0]; omega, by rw [e0]; omega, by omega, eV, by omega⟩)) | exact Or.inr (Or.inr (Or.inr ⟨by rw [e0]; omega, by omega, by omega, by rw [e0]; omega, by omega⟩))))⟩
    refine w_aload rfl ?_
    refine w_getR (g_68_8 _) ?_
    refine w_aload rfl ?_
    refine w_getI (g_68_10 _) fe_68_10 ok60 (fun z77 hz77 hl77 hh77 => ?_)
    refine w_iald (i := (z77).toNat) (ai_75 _) (by omega) (by omega) (ae_75 _) ok60 (fun z78 hz78 hl78 hh78 => ?_)
    have eb : z78 = tA t 75 (tI t60 68 10).toNat := by
      rw [hz78, fr60.2.1 75 (by simp)]
      congr 2 <;> omega
    refine w_push kc_32 ?_
    refine w_cne (by omega) (fun h79 => ?_) (fun h79 => ?_)
    · skip
      refine w_step rfl ?_
      have eA : tI t60 68 10 = (skF (tA t 75) (tI t 68 9) 97 (tI t 68 10)) := (skF_e 97 _ (by omega) (by omega) i0_4 (by intro h9; have h8 := h9.1; have h7 := h9.2; omega)).symm
      have eo := soF_b (tA t 75) (tI t 68 9) (skF (tA t 75) (tI t 68 9) 97 (tI t 68 10))
      refine w_aload rfl ?_
      refine w_aload rfl ?_
      refine w_getI (g_68_10 _) fe_68_10 ok60 (fun z80 hz80 hl80 hh80 => ?_)
      refine w_putI (p_68_11 _) fe_68_11 ok60 (by omega) (fun t81 ht81 ok81 => ?_)
      have kf81_68_9 : tI t81 68 9 = tI t60 68 9 := by rw [ht81, tI_uI, if_neg (by decide)]
      have kf81_68_10 : tI t81 68 10 = tI t60 68 10 := by rw [ht81, tI_uI, if_neg (by decide)]
      have kf81_68_11 : tI t81 68 11 = z80 := by rw [ht81, tI_uI, if_pos ⟨rfl, rfl⟩]
      have kf81_68_12 : tI t81 68 12 = tI t60 68 12 := by rw [ht81, tI_uI, if_neg (by decide)]
      have kf81_68_13 : tI t81 68 13 = tI t60 68 13 := by rw [ht81, tI_uI, if_neg (by decide)]
      have kf81_68_14 : tI t81 68 14 = tI t60 68 14 := by rw [ht81, tI_uI, if_neg (by decide)]
      have fr81 := fr60.uI ht81 (by simp)
      refine w_aload rfl ?_
      refine w_getI (g_68_11 _) fe_68_11 ok81 (fun z82 hz82 hl82 hh82 => ?_)
      refine w_aload rfl ?_
      refine w_getI (g_68_14 _) fe_68_14 ok81 (fun z83 hz83 hl83 hh83 => ?_)
      refine w_cne (by omega) (fun h84 => ?_) (fun h84 => ?_)
      · skip
        refine w_step rfl ?_
        refine w_push kc_0 ?_
        refine w_goto ?_
        refine w_step rfl ?_
        refine w_istore (lv' := [some (.ref 68), some (.int (jI 0))]) rfl ?_
        refine w_aload rfl ?_
        refine w_getI (g_68_11 _) fe_68_11 ok81 (fun z85 hz85 hl85 hh85 => ?_)
        refine w_aload rfl ?_
        refine w_getI (g_68_9 _) fe_68_9 ok81 (fun z86 hz86 hl86 hh86 => ?_)
        refine w_cne (by omega) (fun h87 => ?_) (fun h87 => ?_)
        · skip
          exact e_X9_go_k4 (d := d) ok q0 q1  _ 0 t81 ok81 fr81 (by omega) (by omega) (by omega) (by omega) (by omega) (by omega) (by omega) (by omega) (by omega)  (by omega)
        refine w_aload rfl ?_
        refine w_push kc_0 ?_
        refine w_putI (p_68_12 _) fe_68_12 ok81 (by omega) (fun t88 ht88 ok88 => ?_)
        have kf88_68_9 : tI t88 68 9 = tI t81 68 9 := by rw [ht88, tI_uI, if_neg (by decide)]
        have kf88_68_10 : tI t88 68 10 = tI t81 68 10 := by rw [ht88, tI_uI, if_neg (by decide)]
        have kf88_68_11 : tI t88 68 11 = tI t81 68 11 := by rw [ht88, tI_uI, if_neg (by decide)]
        have kf88_68_12 : tI t88 68 12 = 0 := by rw [ht88, tI_uI, if_pos ⟨rfl, rfl⟩]
        have kf88_68_13 : tI t88 68 13 = tI t81 68 13 := by rw [ht88, tI_uI, if_neg (by decide)]
        have kf88_68_14 : tI t88 68 14 = tI t81 68 14 := by rw [ht88, tI_uI, if_neg (by decide)]
        have fr88 := fr81.uI ht88 (by simp)
        refine w_goto ?_
        refine w_step rfl ?_
        have e0 : tI t88 68 11 = (skF (tA t 75) (tI t 68 9) 97 (tI t 68 10)) := by omega
        refine w_retV ?_
        exact ⟨ok88, fr88, (by omega), (by omega), (by omega), (by omega), (by omega), (cr_mk q1 (funext (fr88.2.1 75 (by simp))) (by omega) e0 (by first | exact Or.inl ⟨by rw [e0]; omega, by omega, by omega⟩ | exact Or.inr (Or.inl ⟨by rw [e0]; omega, by rw [e0]; omega, by omega, by rw [e0]; omega, by omega⟩) | exact Or.inr (Or.inr (Or.inl ⟨by rw [e0]; omega, by rw [e0]; omega, by omega, eV, by omega⟩)) | exact Or.inr (Or.inr (Or.inr ⟨by rw [e0]; omega, by omega, by omega, by rw [e0]; omega, by omega⟩))))⟩
      refine w_push kc_1 ?_
      refine w_goto ?_
      refine w_step rfl ?_
      refine w_istore (lv' := [some (.ref 68), some (.int (jI 1))]) rfl ?_
      refine w_aload rfl ?_
      refine w_getI (g_68_11 _) fe_68_11 ok81 (fun z89 hz89 hl89 hh89 => ?_)
      refine w_aload rfl ?_
      refine w_getI (g_68_9 _) fe_68_9 ok81 (fun z90 hz90 hl90 hh90 => ?_)
      refine w_cne (by omega) (fun h91 => ?_) (fun h91 => ?_)
      · skip
        exact e_X9_go_k4 (d := d) ok q0 q1  _ 1 t81 ok81 fr81 (by omega) (by omega) (by omega) (by omega) (by omega) (by omega) (by omega) (by omega) (by omega)  (by omega)
      refine w_aload rfl ?_
      refine w_push kc_0 ?_
      refine w_putI (p_68_12 _) fe_68_12 ok81 (by omega) (fun t92 ht92 ok92 => ?_)
      have kf92_68_9 : tI t92 68 9 = tI t81 68 9 := by rw [ht92, tI_uI, if_neg (by decide)]
      have kf92_68_10 : tI t92 68 10 = tI t81 68 10 := by rw [ht92, tI_uI, if_neg (by decide)]
      have kf92_68_11 : tI t92 68 11 = tI t81 68 11 := by rw [ht92, tI_uI, if_neg (by decide)]
      have kf92_68_12 : tI t92 68 12 = 0 := by rw [ht92, tI_uI, if_pos ⟨rfl, rfl⟩]
      have kf92_68_13 : tI t92 68 13 = tI t81 68 13 := by rw [ht92, tI_uI, if_neg (by decide)]
      have kf92_68_14 : tI t92 68 14 = tI t81 68 14 := by rw [ht92, tI_uI, if_neg (by decide)]
      have fr92 := fr81.uI ht92 (by simp)
      refine w_goto ?_
      refine w_step rfl ?_
      have e0 : tI t92 68 11 = (skF (tA t 75) (tI t 68 9) 97 (tI t 68 10)) := by omega
      refine w_retV ?_
      exact ⟨ok92, fr92, (by omega), (by omega), (by omega), (by omega), (by omega), (cr_mk q1 (funext (fr92.2.1 75 (by simp))) (by omega) e0 (by first | exact Or.inl ⟨by rw [e0]; omega, by omega, by omega⟩ | exact Or.inr (Or.inl ⟨by rw [e0]; omega, by rw [e0]; omega, by omega, by rw [e0]; omega, by omega⟩) | exact Or.inr (Or.inr (Or.inl ⟨by rw [e0]; omega, by rw [e0]; omega, by omega, eV, by omega⟩)) | exact Or.inr (Or.inr (Or.inr ⟨by rw [e0]; omega, by omega, by omega, by rw [e0]; omega, by omega⟩))))⟩
    refine w_aload rfl ?_
    refine w_dupR ?_
    refine w_getI (g_68_10 _) fe_68_10 ok60 (fun z93 hz93 hl93 hh93 => ?_)
    refine w_push kc_1 ?_
    refine w_add ?_
    refine w_putI (p_68_10 _) fe_68_10 ok60 (by omega) (fun t94 ht94 ok94 => ?_)
    have kf94_68_9 : tI t94 68 9 = tI t60 68 9 := by rw [ht94, tI_uI, if_neg (by decide)]
    have kf94_68_10 : tI t94 68 10 = (z93 + 1) := by rw [ht94, tI_uI, if_pos ⟨rfl, rfl⟩]
    have kf94_68_11 : tI t94 68 11 = tI t60 68 11 := by rw [ht94, tI_uI, if_neg (by decide)]
    have kf94_68_12 : tI t94 68 12 = tI t60 68 12 := by rw [ht94, tI_uI, if_neg (by decide)]
    have kf94_68_13 : tI t94 68 13 = tI t60 68 13 := by rw [ht94, tI_uI, if_neg (by decide)]
    have kf94_68_14 : tI t94 68 14 = tI t60 68 14 := by rw [ht94, tI_uI, if_neg (by decide)]
    have fr94 := fr60.uI ht94 (by simp)
    refine w_goto ?_
    exact ih0 _ t94 ok94 fr94 (by omega) (by omega) (by omega) (by omega) (i0_4.sn (by omega) (by omega) (by omega)) (by omega) (by omega)
set_option maxRecDepth 100000 in
set_option maxHeartbeats 4000000 in
theorem e_X9_go {d : Nat} {t : TS} {c : PCu} (ok : OK t) (q0 : tI t 68 10 ≤ tI t 68 9) (q1 : GO t c) : CV (EX FU (d + 2)) 191 [.ref 68] (mk t) (fun t' => OK t' ∧ Fr [(68, 10), (68, 11), (68, 12), (68, 13), (68, 14)] t t' ∧ (tI t 68 10 ≤ tI t' 68 11) ∧ (tI t' 68 11 ≤ tI t' 68 10) ∧ (tI t' 68 10 ≤ tI t 68 9) ∧ (tI t' 68 12 = 0 → tI t' 68 11 = tI t 68 9) ∧ (¬ tI t' 68 12 = 0 → tI t' 68 11 < tI t' 68 10) ∧ (CRx t' (stC (tA t 75) (tI t 68 9) c))) := by
  refine CV_ent (d := d + 1) (Bk := bX9_go) (nL := 2) rfl rfl rfl (Nat.le_of_ble_eq_true rfl) ?_
  show Rn _ 1000000 0 [some (.ref 68), none] [] _ _
  have fr : Fr [(68, 10), (68, 11), (68, 12), (68, 13), (68, 14)] t t := Fr.rf _ _
  have hr9t := ok.f fe_68_9
  have hrAt := ok.f fe_68_10
  have hr0 := (ok.f fe_68_10).1
  exact e_X9_go_k0 (d := d) ok q0 q1 97 _ t ok fr (by omega) (by omega) (by omega) (by omega) (fun i h1 h2 => by omega) (by omega) (by omega)
set_option maxRecDepth 100000 in
set_option maxHeartbeats 4000000 in
theorem e_X9_takesKey {d : Nat} {t : TS} {c : PCu} (ok : OK t) (q0 : tI t 68 11 ≤ tI t 68 10) (q1 : tI t 68 10 ≤ tI t 68 9) (q2 : CRx t c) (q3 : WC (tI t 68 9) c) (q4 : c.2.2.2 = 0) (q5 : KC t) : CI (EX FU (d + 3)) 192 [.ref 68] (mk t) (fun z t' => OK t' ∧ Fr [(68, 10), (68, 11), (68, 12), (68, 13), (68, 14), (68, 15)] t t' ∧ (0 ≤ z) ∧ (z ≤ 1) ∧ (tI t' 68 11 ≤ tI t' 68 10) ∧ (tI t' 68 10 ≤ tI t 68 9) ∧ (¬ z = 0 → 3 ≤ tI t' 68 11) ∧ (tI t' 68 12 = 0 → tI t' 68 11 = tI t 68 9 ∨ z = 0) ∧ (¬ tI t' 68 12 = 0 → tI t' 68 11 < tI t' 68 10 ∨ z = 0) ∧ (TKp t c z t')) := by
  refine CI_ent (d := d + 2) (Bk := bX9_takesKey) (nL := 5) rfl rfl rfl (Nat.le_of_ble_eq_true rfl) ?_
  show Rn _ 1000000 0 [some (.ref 68), none, none, none, none] [] _ _
  have fr : Fr [(68, 10), (68, 11), (68, 12), (68, 13), (68, 14), (68, 15)] t t := Fr.rf _ _
  have hr9t := ok.f fe_68_9
  refine w_step rfl ?_
  refine w_aload rfl ?_
  refine w_getI (g_68_12 _) fe_68_12 ok (fun z1 hz1 hl1 hh1 => ?_)
  refine w_push kc_1 ?_
  refine w_ceq (by omega) (fun h2 => ?_) (fun h2 => ?_)
  · skip
    refine w_step rfl ?_
    refine w_push kc_0 ?_
    refine w_istore (lv' := [some (.ref 68), some (.int (jI 0)), none, none, none]) rfl ?_
    refine w_goto ?_
    have key2 : ∀ (n2 M2 : Nat) (w : Int) (o2 : Option Int) (o3 : Option Int) (o4 : Option Int), (0 ≤ w) → (w ≤ 3) → (NKp (tA t 75) c w) → 3 - w < (n2 : Int) → 2000 * n2 + (1000) ≤ M2 → Rn (bX9_takesKey (EX FU (d + 2))) M2 2 [some (.ref 68), some (.int (jI w)), dv o2, dv o3, dv o4] [] (mk t) (PI (fun z t' => OK t' ∧ Fr [(68, 10), (68, 11), (68, 12), (68, 13), (68, 14), (68, 15)] t t' ∧ (0 ≤ z) ∧ (z ≤ 1) ∧ (tI t' 68 11 ≤ tI t' 68 10) ∧ (tI t' 68 10 ≤ tI t 68 9) ∧ (¬ z = 0 → 3 ≤ tI t' 68 11) ∧ (tI t' 68 12 = 0 → tI t' 68 11 = tI t 68 9 ∨ z = 0) ∧ (¬ tI t' 68 12 = 0 → tI t' 68 11 < tI t' 68 10 ∨ z = 0) ∧ (TKp t c z t'))) := by
      intro n2
      induction n2 with
      | zero => intro M2 w o2 o3 o4 i2_0 i2_1 i2_2 v2 f2; exfalso; omega
      | succ n2 ih2 =>
        intro M2 w o2 o3 o4 i2_0 i2_1 i2_2 v2 f2
        obtain ⟨M2, rfl⟩ : ∃ m, M2 = m + 2000 := ⟨M2 - 2000, by omega⟩
        have ln := ln_s w
        refine w_step rfl ?_
        refine w_iload rfl ?_
        refine w_push kc_3 ?_
        refine w_cge (by omega) (fun h3 => ?_) (fun h3 => ?_)
        · skip
          refine w_step rfl ?_
          refine w_push kc_0 ?_
          refine w_retI rfl ?_
          exact ⟨ok, fr, (by omega), (by omega), (by omega), (by omega), (by omega), (by omega), (by omega), (by first | exact Or.inr ⟨rfl, ky_t (tk_n1 q2 q4 (by omega)), rfl⟩ | exact Or.inr ⟨rfl, ky_n i2_2 (by omega), rfl⟩ | exact Or.inl ⟨rfl, by rw [e15]; exact ky_y i2_2 (by omega) (sm_y i5_6 q2 (by omega) q4 (by omega) (by omega)), by omega, cG⟩ | omega)⟩
        refine w_aload rfl ?_
        refine w_getR (g_68_17 _) ?_
        refine w_iload rfl ?_
        refine w_push kc_1 ?_
        refine w_add ?_
        refine w_iald (i := ((w + 1)).toNat) (ai_77 _) (by omega) (by omega) (ae_77 _) ok (fun z4 hz4 hl4 hh4 => ?_)
        have hk4 := kr_s (w := w + 1) (by omega)
        refine w_aload rfl ?_
        refine w_getR (g_68_17 _) ?_
        refine w_iload rfl ?_
        refine w_iald (i := (w).toNat) (ai_77 _) (by omega) (by omega) (ae_77 _) ok (fun z5 hz5 hl5 hh5 => ?_)
        have hk5 := kr_s (w := w) (by omega)
        refine w_sub ?_
        refine w_istore (lv' := [some (.ref 68), some (.int (jI w)), some (.int (jI (z4 - z5))), dv o3, dv o4]) rfl ?_
        refine w_iload rfl ?_
        refine w_aload rfl ?_
        refine w_getI (g_68_10 _) fe_68_10 ok (fun z6 hz6 hl6 hh6 => ?_)
        refine w_aload rfl ?_
        refine w_getI (g_68_11 _) fe_68_11 ok (fun z7 hz7 hl7 hh7 => ?_)
        refine w_sub ?_
        refine w_cne (by omega) (fun h8 => ?_) (fun h8 => ?_)
        · skip
          refine w_step rfl ?_
          refine w_push kc_0 ?_
          refine w_goto ?_
          refine w_step rfl ?_
          refine w_istore (lv' := [some (.ref 68), some (.int (jI w)), some (.int (jI (z4 - z5))), some (.int (jI 0)), dv o4]) rfl ?_
          refine w_push kc_0 ?_
          refine w_istore (lv' := [some (.ref 68), some (.int (jI w)), some (.int (jI (z4 - z5))), some (.int (jI 0)), some (.int (jI 0))]) rfl ?_
          refine w_goto ?_
          have key5 : ∀ (n5 M5 : Nat) (same : Int) (k : Int), (0 ≤ same) → (same ≤ 1) → (0 ≤ k) → (k ≤ lnW w) → ((z4 - z5) = lnW w) → (same = 0 ∨ (z4 - z5) = tI t 68 10 - tI t 68 11) → (SMp (tA t 75) (tI t 68 11) (tI t 68 10 - tI t 68 11) w same k) → 96 - k < (n5 : Int) → 15 * n5 + (2000 * n2 + 1000) ≤ M5 → Rn (bX9_takesKey (EX FU (d + 2))) M5 5 [some (.ref 68), some (.int (jI w)), some (.int (jI (z4 - z5))), some (.int (jI same)), some (.int (jI k))] [] (mk t) (PI (fun z t' => OK t' ∧ Fr [(68, 10), (68, 11), (68, 12), (68, 13), (68, 14), (68, 15)] t t' ∧ (0 ≤ z) ∧ (z ≤ 1) ∧ (tI t' 68 11 ≤ tI t' 68 10) ∧ (tI t' 68 10 ≤ tI t 68 9) ∧ (¬ z = 0 → 3 ≤ tI t' 68 11) ∧ (tI t' 68 12 = 0 → tI t' 68 11 = tI t 68 9 ∨ z = 0) ∧ (¬ tI t' 68 12 = 0 → tI t' 68 11 < tI t' 68 10 ∨ z = 0) ∧ (TKp t c z t'))) := by
            intro n5
            induction n5 with
            | zero => intro M5 same k i5_0 i5_1 i5_2 i5_3 i5_4 i5_5 i5_6 v5 f5; exfalso; omega
            | succ n5 ih5 =>
              intro M5 same k i5_0 i5_1 i5_2 i5_3 i5_4 i5_5 i5_6 v5 f5
              obtain ⟨M5, rfl⟩ : ∃ m, M5 = m + 15 := ⟨M5 - 15, by omega⟩
              refine w_step rfl ?_
              refine w_iload rfl ?_
              refine w_iload rfl ?_
              refine w_cge (by omega) (fun h9 => ?_) (fun h9 => ?_)
              · skip
                refine w_step rfl ?_
                refine w_iload rfl ?_
                refine w_ieq (by omega) (fun h10 => ?_) (fun h10 => ?_)
                · skip
                  refine w_step rfl ?_
                  refine w_iinc (lv' := [some (.ref 68), some (.int (jI (w + 1))), some (.int (jI (z4 - z5))), some (.int (jI same)), some (.int (jI k))]) kc_1 rfl rfl ?_
                  refine w_goto ?_
                  exact ih2 _ (w + 1) (some (z4 - z5)) (some same) (some k)  (by omega) (by omega) (nk_s i2_2 (sm_n i5_6 q2 (by omega))) (by omega) (by omega)
                refine w_aload rfl ?_
                refine w_iload rfl ?_
                refine w_putI (p_68_15 _) fe_68_15 ok (by omega) (fun t11 ht11 ok11 => ?_)
                have kf11_68_9 : tI t11 68 9 = tI t 68 9 := by rw [ht11, tI_uI, if_neg (by decide)]
                have kf11_68_10 : tI t11 68 10 = tI t 68 10 := by rw [ht11, tI_uI, if_neg (by decide)]
                have kf11_68_11 : tI t11 68 11 = tI t 68 11 := by rw [ht11, tI_uI, if_neg (by decide)]
                have kf11_68_12 : tI t11 68 12 = tI t 68 12 := by rw [ht11, tI_uI, if_neg (by decide)]
                have kf11_68_13 : tI t11 68 13 = tI t 68 13 := by rw [ht11, tI_uI, if_neg (by decide)]
                have kf11_68_14 : tI t11 68 14 = tI t 68 14 := by rw [ht11, tI_uI, if_neg (by decide)]
                have fr11 := fr.uI ht11 (by simp)
                have p15 := ht11
                have cA := q2.uI ht11 (by omega)
                refine w_aload rfl ?_
                refine w_callV0V (oj_68 _).choose_spec rfl (e_X9_go ok11 (by omega) (cA.go q3 (tk_ne q3 (by have h9 := q2.1.2.2; omega)))) ?_
                rintro t12 ⟨ok12, fq12, hp12_0, hp12_1, hp12_2, hp12_3, hp12_4, hp12_5⟩
                have fr12 := fr11.then fq12 (by simp)
                have kf12_68_9 : tI t12 68 9 = tI t11 68 9 := fq12.1 68 9 (by simp)
                have e15 : tI t12 68 15 = w := by rw [fq12.1 68 15 (by simp), p15, tI_uI]; simp
                have cG : CRx t12 (stC (tA t 75) (tI t 68 9) c) := by
                  have h9 := hp12_5
                  rw [show tA t11 75 = tA t 75 from funext (fr11.2.1 75 (by simp)), show tI t11 68 9 = tI t 68 9 by omega] at h9
                  exact h9
                refine w_push kc_1 ?_
                refine w_retI rfl ?_
                exact ⟨ok12, fr12, (by omega), (by omega), (by omega), (by omega), (by omega), (by omega), (by omega), (by first | exact Or.inr ⟨rfl, ky_t (tk_n1 q2 q4 (by omega)), rfl⟩ | exact Or.inr ⟨rfl, ky_n i2_2 (by omega), rfl⟩ | exact Or.inl ⟨rfl, by rw [e15]; exact ky_y i2_2 (by omega) (sm_y i5_6 q2 (by omega) q4 (by omega) (by omega)), by omega, cG⟩ | omega)⟩
              refine w_iload rfl ?_
              refine w_ieq (by omega) (fun h13 => ?_) (fun h13 => ?_)
              · skip
                refine w_step rfl ?_
                refine w_iload rfl ?_
                refine w_ieq (by omega) (fun _ => ?_) (fun h => absurd (by omega) h)
                refine w_step rfl ?_
                refine w_iinc (lv' := [some (.ref 68), some (.int (jI (w + 1))), some (.int (jI (z4 - z5))), some (.int (jI same)), some (.int (jI k))]) kc_1 rfl rfl ?_
                refine w_goto ?_
                exact ih2 _ (w + 1) (some (z4 - z5)) (some same) (some k)  (by omega) (by omega) (nk_s i2_2 (sm_n i5_6 q2 (by omega))) (by omega) (by omega)
              refine w_aload rfl ?_
              refine w_getR (g_68_8 _) ?_
              refine w_aload rfl ?_
              refine w_getI (g_68_11 _) fe_68_11 ok (fun z14 hz14 hl14 hh14 => ?_)
              refine w_iload rfl ?_
              refine w_add ?_
              refine w_iald (i := ((z14 + k)).toNat) (ai_75 _) (by omega) (by omega) (ae_75 _) ok (fun z15 hz15 hl15 hh15 => ?_)
              have eb : z15 = tA t 75 (tI t 68 11 + k).toNat := by
                rw [hz15]
                congr 2 <;> omega
              refine w_aload rfl ?_
              refine w_getR (g_68_16 _) ?_
              refine w_aload rfl ?_
              refine w_getR (g_68_17 _) ?_
              refine w_iload rfl ?_
              refine w_iald (i := (w).toNat) (ai_77 _) (by omega) (by omega) (ae_77 _) ok (fun z16 hz16 hl16 hh16 => ?_)
              refine w_iload rfl ?_
              refine w_add ?_
              refine w_iald (i := ((z16 + k)).toNat) (ai_76 _) (by omega) (by omega) (ae_76 _) ok (fun z17 hz17 hl17 hh17 => ?_)
              have ec := kc_w q5 (w := w) (k := k) (by omega) (by omega) hz17
              refine w_cne (by omega) (fun h18 => ?_) (fun h18 => ?_)
              · skip
                refine w_step rfl ?_
                refine w_push kc_0 ?_
                refine w_goto ?_
                refine w_step rfl ?_
                refine w_istore (lv' := [some (.ref 68), some (.int (jI w)), some (.int (jI (z4 - z5))), some (.int (jI 0)), some (.int (jI k))]) rfl ?_
                refine w_iinc (lv' := [some (.ref 68), some (.int (jI w)), some (.int (jI (z4 - z5))), some (.int (jI 0)), some (.int (jI (k + 1)))]) kc_1 rfl rfl ?_
                refine w_goto ?_
                exact ih5 _ 0 (k + 1)  (by omega) (by omega) (by omega) (by omega) (by omega) (by omega) (sm_s i5_6 (by omega) (by omega) eb ec (by omega)) (by omega) (by omega)
              refine w_push kc_1 ?_
              refine w_goto ?_
              refine w_step rfl ?_
              refine w_istore (lv' := [some (.ref 68), some (.int (jI w)), some (.int (jI (z4 - z5))), some (.int (jI 1)), some (.int (jI k))]) rfl ?_
              refine w_iinc (lv' := [some (.ref 68), some (.int (jI w)), some (.int (jI (z4 - z5))), some (.int (jI 1)), some (.int (jI (k + 1)))]) kc_1 rfl rfl ?_
              refine w_goto ?_
              exact ih5 _ 1 (k + 1)  (by omega) (by omega) (by omega) (by omega) (by omega) (by omega) (sm_s i5_6 (by omega) (by omega) eb ec (by omega)) (by omega) (by omega)
          exact key5 97 _ 0 0  (by omega) (by omega) (by omega) (by omega) (by omega) (by omega) (sm_0 (by omega) rfl) (by omega) (by omega)
        refine w_push kc_1 ?_
        refine w_goto ?_
        refine w_step rfl ?_
        refine w_istore (lv' := [some (.ref 68), some (.int (jI w)), some (.int (jI (z4 - z5))), some (.int (jI 1)), dv o4]) rfl ?_
        refine w_push kc_0 ?_
        refine w_istore (lv' := [some (.ref 68), some (.int (jI w)), some (.int (jI (z4 - z5))), some (.int (jI 1)), some (.int (jI 0))]) rfl ?_
        refine w_goto ?_
        have key5 : ∀ (n5 M5 : Nat) (same : Int) (k : Int), (0 ≤ same) → (same ≤ 1) → (0 ≤ k) → (k ≤ lnW w) → ((z4 - z5) = lnW w) → (same = 0 ∨ (z4 - z5) = tI t 68 10 - tI t 68 11) → (SMp (tA t 75) (tI t 68 11) (tI t 68 10 - tI t 68 11) w same k) → 96 - k < (n5 : Int) → 15 * n5 + (2000 * n2 + 1000) ≤ M5 → Rn (bX9_takesKey (EX FU (d + 2))) M5 5 [some (.ref 68), some (.int (jI w)), some (.int (jI (z4 - z5))), some (.int (jI same)), some (.int (jI k))] [] (mk t) (PI (fun z t' => OK t' ∧ Fr [(68, 10), (68, 11), (68, 12), (68, 13), (68, 14), (68, 15)] t t' ∧ (0 ≤ z) ∧ (z ≤ 1) ∧ (tI t' 68 11 ≤ tI t' 68 10) ∧ (tI t' 68 10 ≤ tI t 68 9) ∧ (¬ z = 0 → 3 ≤ tI t' 68 11) ∧ (tI t' 68 12 = 0 → tI t' 68 11 = tI t 68 9 ∨ z = 0) ∧ (¬ tI t' 68 12 = 0 → tI t' 68 11 < tI t' 68 10 ∨ z = 0) ∧ (TKp t c z t'))) := by
          intro n5
          induction n5 with
          | zero => intro M5 same k i5_0 i5_1 i5_2 i5_3 i5_4 i5_5 i5_6 v5 f5; exfalso; omega
          | succ n5 ih5 =>
            intro M5 same k i5_0 i5_1 i5_2 i5_3 i5_4 i5_5 i5_6 v5 f5
            obtain ⟨M5, rfl⟩ : ∃ m, M5 = m + 15 := ⟨M5 - 15, by omega⟩
            refine w_step rfl ?_
            refine w_iload rfl ?_
            refine w_iload rfl ?_
            refine w_cge (by omega) (fun h19 => ?_) (fun h19 => ?_)
            · skip
              refine w_step rfl ?_
              refine w_iload rfl ?_
              refine w_ieq (by omega) (fun h20 => ?_) (fun h20 => ?_)
              · skip
                refine w_step rfl ?_
                refine w_iinc (lv' := [some (.ref 68), some (.int (jI (w + 1))), some (.int (jI (z4 - z5))), some (.int (jI same)), some (.int (jI k))]) kc_1 rfl rfl ?_
                refine w_goto ?_
                exact ih2 _ (w + 1) (some (z4 - z5)) (some same) (some k)  (by omega) (by omega) (nk_s i2_2 (sm_n i5_6 q2 (by omega))) (by omega) (by omega)
              refine w_aload rfl ?_
              refine w_iload rfl ?_
              refine w_putI (p_68_15 _) fe_68_15 ok (by omega) (fun t21 ht21 ok21 => ?_)
              have kf21_68_9 : tI t21 68 9 = tI t 68 9 := by rw [ht21, tI_uI, if_neg (by decide)]
              have kf21_68_10 : tI t21 68 10 = tI t 68 10 := by rw [ht21, tI_uI, if_neg (by decide)]
              have kf21_68_11 : tI t21 68 11 = tI t 68 11 := by rw [ht21, tI_uI, if_neg (by decide)]
              have kf21_68_12 : tI t21 68 12 = tI t 68 12 := by rw [ht21, tI_uI, if_neg (by decide)]
              have kf21_68_13 : tI t21 68 13 = tI t 68 13 := by rw [ht21, tI_uI, if_neg (by decide)]
              have kf21_68_14 : tI t21 68 14 = tI t 68 14 := by rw [ht21, tI_uI, if_neg (by decide)]
              have fr21 := fr.uI ht21 (by simp)
              have p15 := ht21
              have cA := q2.uI ht21 (by omega)
              refine w_aload rfl ?_
              refine w_callV0V (oj_68 _).choose_spec rfl (e_X9_go ok21 (by omega) (cA.go q3 (tk_ne q3 (by have h9 := q2.1.2.2; omega)))) ?_
              rintro t22 ⟨ok22, fq22, hp22_0, hp22_1, hp22_2, hp22_3, hp22_4, hp22_5⟩
              have fr22 := fr21.then fq22 (by simp)
              have kf22_68_9 : tI t22 68 9 = tI t21 68 9 := fq22.1 68 9 (by simp)
              have e15 : tI t22 68 15 = w := by rw [fq22.1 68 15 (by simp), p15, tI_uI]; simp
              have cG : CRx t22 (stC (tA t 75) (tI t 68 9) c) := by
                have h9 := hp22_5
                rw [show tA t21 75 = tA t 75 from funext (fr21.2.1 75 (by simp)), show tI t21 68 9 = tI t 68 9 by omega] at h9
                exact h9
              refine w_push kc_1 ?_
              refine w_retI rfl ?_
              exact ⟨ok22, fr22, (by omega), (by omega), (by omega), (by omega), (by omega), (by omega), (by omega), (by first | exact Or.inr ⟨rfl, ky_t (tk_n1 q2 q4 (by omega)), rfl⟩ | exact Or.inr ⟨rfl, ky_n i2_2 (by omega), rfl⟩ | exact Or.inl ⟨rfl, by rw [e15]; exact ky_y i2_2 (by omega) (sm_y i5_6 q2 (by omega) q4 (by omega) (by omega)), by omega, cG⟩ | omega)⟩
            refine w_iload rfl ?_
            refine w_ieq (by omega) (fun h23 => ?_) (fun h23 => ?_)
            · skip
              refine w_step rfl ?_
              refine w_iload rfl ?_
              refine w_ieq (by omega) (fun _ => ?_) (fun h => absurd (by omega) h)
              refine w_step rfl ?_
              refine w_iinc (lv' := [some (.ref 68), some (.int (jI (w + 1))), some (.int (jI (z4 - z5))), some (.int (jI same)), some (.int (jI k))]) kc_1 rfl rfl ?_
              refine w_goto ?_
              exact ih2 _ (w + 1) (some (z4 - z5)) (some same) (some k)  (by omega) (by omega) (nk_s i2_2 (sm_n i5_6 q2 (by omega))) (by omega) (by omega)
            refine w_aload rfl ?_
            refine w_getR (g_68_8 _) ?_
            refine w_aload rfl ?_
            refine w_getI (g_68_11 _) fe_68_11 ok (fun z24 hz24 hl24 hh24 => ?_)
            refine w_iload rfl ?_
            refine w_add ?_
            refine w_iald (i := ((z24 + k)).toNat) (ai_75 _) (by omega) (by omega) (ae_75 _) ok (fun z25 hz25 hl25 hh25 => ?_)
            have eb : z25 = tA t 75 (tI t 68 11 + k).toNat := by
              rw [hz25]
              congr 2 <;> omega
            refine w_aload rfl ?_
            refine w_getR (g_68_16 _) ?_
            refine w_aload rfl ?_
            refine w_getR (g_68_17 _) ?_
            refine w_iload rfl ?_
            refine w_iald (i := (w).toNat) (ai_77 _) (by omega) (by omega) (ae_77 _) ok (fun z26 hz26 hl26 hh26 => ?_)
            refine w_iload rfl ?_
            refine w_add ?_
            refine w_iald (i := ((z26 + k)).toNat) (ai_76 _) (by omega) (by omega) (ae_76 _) ok (fun z27 hz27 hl27 hh27 => ?_)
            have ec := kc_w q5 (w := w) (k := k) (by omega) (by omega) hz27
            refine w_cne (by omega) (fun h28 => ?_) (fun h28 => ?_)
            · skip
              refine w_step rfl ?_
              refine w_push kc_0 ?_
              refine w_goto ?_
              refine w_step rfl ?_
              refine w_istore (lv' := [some (.ref 68), some (.int (jI w)), some (.int (jI (z4 - z5))), some (.int (jI 0)), some (.int (jI k))]) rfl ?_
              refine w_iinc (lv' := [some (.ref 68), some (.int (jI w)), some (.int (jI (z4 - z5))), some (.int (jI 0)), some (.int (jI (k + 1)))]) kc_1 rfl rfl ?_
              refine w_goto ?_
              exact ih5 _ 0 (k + 1)  (by omega) (by omega) (by omega) (by omega) (by omega) (by omega) (sm_s i5_6 (by omega) (by omega) eb ec (by omega)) (by omega) (by omega)
            refine w_push kc_1 ?_
            refine w_goto ?_
            refine w_step rfl ?_
            refine w_istore (lv' := [some (.ref 68), some (.int (jI w)), some (.int (jI (z4 - z5))), some (.int (jI 1)), some (.int (jI k))]) rfl ?_
            refine w_iinc (lv' := [some (.ref 68), some (.int (jI w)), some (.int (jI (z4 - z5))), some (.int (jI 1)), some (.int (jI (k + 1)))]) kc_1 rfl rfl ?_
            refine w_goto ?_
            exact ih5 _ 1 (k + 1)  (by omega) (by omega) (by omega) (by omega) (by omega) (by omega) (sm_s i5_6 (by omega) (by omega) eb ec (by omega)) (by omega) (by omega)
        exact key5 97 _ 1 0  (by omega) (by omega) (by omega) (by omega) (by omega) (by omega) (sm_0 (by omega) rfl) (by omega) (by omega)
    exact key2 4 _ 0 none none none  (by omega) (by omega) (nk_0 rfl) (by omega) (by omega)
  refine w_push kc_0 ?_
  refine w_retI rfl ?_
  exact ⟨ok, fr, (by omega), (by omega), (by omega), (by omega), (by omega), (by omega), (by omega), (by first | exact Or.inr ⟨rfl, ky_t (tk_n1 q2 q4 (by omega)), rfl⟩ | exact Or.inr ⟨rfl, ky_n i2_2 (by omega), rfl⟩ | exact Or.inl ⟨rfl, by rw [e15]; exact ky_y i2_2 (by omega) (sm_y i5_6 q2 (by omega) q4 (by omega) (by omega)), by omega, cG⟩ | omega)⟩
set_option maxRecDepth 100000 in
set_option maxHeartbeats 4000000 in
theorem e_X9_nameOf {d : Nat} {t : TS} {x : Int}  (ok : OK t) (q0 : -2147483648 ≤ x) (q1 : x ≤ 2147483647) : CI (EX FU (d + 1)) 193 [.ref 68, .int (jI x)] (mk t) (fun z t' => t = t' ∧ (z = nmF (tI t 68 15) x) ∧ (-1 ≤ z) ∧ (z ≤ 2)) := by
  refine CI_ent (d := d + 0) (Bk := bX9_nameOf) (nL := 2) rfl rfl rfl (Nat.le_of_ble_eq_true rfl) ?_
  show Rn _ 1000000 0 [some (.ref 68), some (.int (jI x))] [] _ _
  refine w_step rfl ?_
  refine w_aload rfl ?_
  refine w_getI (g_68_15 _) fe_68_15 ok (fun z1 hz1 hl1 hh1 => ?_)
  have hs2 : z1 = 0 ∨ z1 = 1 ∨ (¬ z1 = 0 ∧ ¬ z1 = 1) := ((Decidable.em (z1 = 0)).elim Or.inl (fun n0 => Or.inr ((Decidable.em (z1 = 1)).elim Or.inl (fun n1 => Or.inr ⟨n0, n1⟩))))
  rcases hs2 with hs2 | hs2 | hs2
  · refine w_sw (n := 1) (lsw_at hs2 (by decide)) ?_
    refine w_step rfl ?_
    refine w_iload rfl ?_
    refine w_push kc_115 ?_
    refine w_cne (by omega) (fun h3 => ?_) (fun h3 => ?_)
    · skip
      refine w_step rfl ?_
      refine w_iload rfl ?_
      refine w_push kc_114 ?_
      refine w_cne (by omega) (fun h4 => ?_) (fun h4 => ?_)
      · skip
        refine w_step rfl ?_
        refine w_iload rfl ?_
        refine w_push kc_107 ?_
        refine w_cne (by omega) (fun h5 => ?_) (fun h5 => ?_)
        · skip
          refine w_step rfl ?_
          refine w_push kc_m1 ?_
          refine w_goto ?_
          refine w_step rfl ?_
          refine w_retI rfl ?_
          exact ⟨rfl, (by unfold nmF; (repeat' split) <;> omega), (by omega), (by omega)⟩
        refine w_push kc_2 ?_
        refine w_goto ?_
        refine w_step rfl ?_
        refine w_retI rfl ?_
        exact ⟨rfl, (by unfold nmF; (repeat' split) <;> omega), (by omega), (by omega)⟩
      refine w_push kc_1 ?_
      refine w_goto ?_
      refine w_step rfl ?_
      refine w_retI rfl ?_
      exact ⟨rfl, (by unfold nmF; (repeat' split) <;> omega), (by omega), (by omega)⟩
    refine w_push kc_0 ?_
    refine w_goto ?_
    refine w_step rfl ?_
    refine w_retI rfl ?_
    exact ⟨rfl, (by unfold nmF; (repeat' split) <;> omega), (by omega), (by omega)⟩
  · refine w_sw (n := 6) (lsw_at hs2 (by decide)) ?_
    refine w_step rfl ?_
    refine w_iload rfl ?_
    refine w_push kc_112 ?_
    refine w_cne (by omega) (fun h6 => ?_) (fun h6 => ?_)
    · skip
      refine w_step rfl ?_
      refine w_iload rfl ?_
      refine w_push kc_109 ?_
      refine w_cne (by omega) (fun h7 => ?_) (fun h7 => ?_)
      · skip
        refine w_step rfl ?_
        refine w_push kc_m1 ?_
        refine w_goto ?_
        refine w_step rfl ?_
        refine w_retI rfl ?_
        exact ⟨rfl, (by unfold nmF; (repeat' split) <;> omega), (by omega), (by omega)⟩
      refine w_push kc_1 ?_
      refine w_goto ?_
      refine w_step rfl ?_
      refine w_retI rfl ?_
      exact ⟨rfl, (by unfold nmF; (repeat' split) <;> omega), (by omega), (by omega)⟩
    refine w_push kc_0 ?_
    refine w_goto ?_
    refine w_step rfl ?_
    refine w_retI rfl ?_
    exact ⟨rfl, (by unfold nmF; (repeat' split) <;> omega), (by omega), (by omega)⟩
  · refine w_sw (n := 10) (lsw_df (by omega) (by simp only [List.mem_cons, List.not_mem_nil, or_false, forall_eq_or_imp, forall_eq]; omega)) ?_
    refine w_step rfl ?_
    refine w_iload rfl ?_
    refine w_push kc_108 ?_
    refine w_cne (by omega) (fun h8 => ?_) (fun h8 => ?_)
    · skip
      refine w_step rfl ?_
      refine w_iload rfl ?_
      refine w_push kc_114 ?_
      refine w_cne (by omega) (fun h9 => ?_) (fun h9 => ?_)
      · skip
        refine w_step rfl ?_
        refine w_iload rfl ?_
        refine w_push kc_116 ?_
        refine w_cne (by omega) (fun h10 => ?_) (fun h10 => ?_)
        · skip
          refine w_step rfl ?_
          refine w_push kc_m1 ?_
          refine w_goto ?_
          refine w_step rfl ?_
          refine w_retI rfl ?_
          exact ⟨rfl, (by unfold nmF; (repeat' split) <;> omega), (by omega), (by omega)⟩
        refine w_push kc_2 ?_
        refine w_goto ?_
        refine w_step rfl ?_
        refine w_retI rfl ?_
        exact ⟨rfl, (by unfold nmF; (repeat' split) <;> omega), (by omega), (by omega)⟩
      refine w_push kc_1 ?_
      refine w_goto ?_
      refine w_step rfl ?_
      refine w_retI rfl ?_
      exact ⟨rfl, (by unfold nmF; (repeat' split) <;> omega), (by omega), (by omega)⟩
    refine w_push kc_0 ?_
    refine w_goto ?_
    refine w_step rfl ?_
    refine w_retI rfl ?_
    exact ⟨rfl, (by unfold nmF; (repeat' split) <;> omega), (by omega), (by omega)⟩
set_option maxRecDepth 100000 in
set_option maxHeartbeats 4000000 in
theorem e_X9_rank {d : Nat} {t : TS} {s : Int}  (ok : OK t) (q0 : -2147483648 ≤ s) (q1 : s ≤ 2147483647) : CI (EX FU (d + 1)) 194 [.int (jI s)] (mk t) (fun z t' => t = t' ∧ (1 ≤ z) ∧ (z ≤ 6) ∧ (z = rkF s)) := by
  refine CI_ent (d := d + 0) (Bk := bX9_rank) (nL := 1) rfl rfl rfl (Nat.le_of_ble_eq_true rfl) ?_
  show Rn _ 1000000 0 [some (.int (jI s))] [] _ _
  refine w_step rfl ?_
  refine w_iload rfl ?_
  refine w_push kc_m1 ?_
  refine w_cne (by omega) (fun h1 => ?_) (fun h1 => ?_)
  · skip
    refine w_step rfl ?_
    refine w_iload rfl ?_
    refine w_push kc_m2 ?_
    refine w_cne (by omega) (fun h2 => ?_) (fun h2 => ?_)
    · skip
      refine w_step rfl ?_
      refine w_iload rfl ?_
      refine w_push kc_m5 ?_
      refine w_clt (by omega) (fun h3 => ?_) (fun h3 => ?_)
      · skip
        refine w_step rfl ?_
        refine w_iload rfl ?_
        refine w_push kc_m7 ?_
        refine w_clt (by omega) (fun h4 => ?_) (fun h4 => ?_)
        · skip
          refine w_step rfl ?_
          refine w_iload rfl ?_
          refine w_push kc_m9 ?_
          refine w_clt (by omega) (fun h5 => ?_) (fun h5 => ?_)
          · skip
            refine w_step rfl ?_
            refine w_push kc_6 ?_
            refine w_goto ?_
            refine w_step rfl ?_
            refine w_retI rfl ?_
            exact ⟨rfl, (by omega), (by omega), (by unfold rkF; (repeat' split) <;> omega)⟩
          refine w_push kc_5 ?_
          refine w_goto ?_
          refine w_step rfl ?_
          refine w_retI rfl ?_
          exact ⟨rfl, (by omega), (by omega), (by unfold rkF; (repeat' split) <;> omega)⟩
        refine w_push kc_4 ?_
        refine w_goto ?_
        refine w_step rfl ?_
        refine w_retI rfl ?_
        exact ⟨rfl, (by omega), (by omega), (by unfold rkF; (repeat' split) <;> omega)⟩
      refine w_push kc_3 ?_
      refine w_goto ?_
      refine w_step rfl ?_
      refine w_retI rfl ?_
      exact ⟨rfl, (by omega), (by omega), (by unfold rkF; (repeat' split) <;> omega)⟩
    refine w_push kc_2 ?_
    refine w_goto ?_
    refine w_step rfl ?_
    refine w_retI rfl ?_
    exact ⟨rfl, (by omega), (by omega), (by unfold rkF; (repeat' split) <;> omega)⟩
  refine w_push kc_1 ?_
  refine w_goto ?_
  refine w_step rfl ?_
  refine w_retI rfl ?_
  exact ⟨rfl, (by omega), (by omega), (by unfold rkF; (repeat' split) <;> omega)⟩
set_option maxRecDepth 100000 in
set_option maxHeartbeats 4000000 in
theorem e_X9_signHere {d : Nat} {t : TS} {c : PCu} (ok : OK t) (q0 : CRx t c) (q1 : WC (tI t 68 9) c) : CI (EX FU (d + 1)) 196 [.ref 68] (mk t) (fun z t' => t = t' ∧ (-9 ≤ z) ∧ (z ≤ 0) ∧ (z = sgF (siF (tA t 75) (tI t 68 9) c))) := by
  refine CI_ent (d := d + 0) (Bk := bX9_signHere) (nL := 1) rfl rfl rfl (Nat.le_of_ble_eq_true rfl) ?_
  show Rn _ 1000000 0 [some (.ref 68)] [] _ _
  have hs := q0.sg q1
  refine w_step rfl ?_
  refine w_aload rfl ?_
  refine w_getI (g_68_12 _) fe_68_12 ok (fun z1 hz1 hl1 hh1 => ?_)
  refine w_push kc_3 ?_
  refine w_ceq (by omega) (fun h2 => ?_) (fun h2 => ?_)
  · skip
    refine w_step rfl ?_
    refine w_aload rfl ?_
    refine w_getI (g_68_13 _) fe_68_13 ok (fun z3 hz3 hl3 hh3 => ?_)
    have hs4 : z3 = 38 ∨ z3 = 42 ∨ z3 = 43 ∨ z3 = 45 ∨ z3 = 47 ∨ z3 = 60 ∨ z3 = 61 ∨ z3 = 62 ∨ z3 = 124 ∨ (¬ z3 = 38 ∧ ¬ z3 = 42 ∧ ¬ z3 = 43 ∧ ¬ z3 = 45 ∧ ¬ z3 = 47 ∧ ¬ z3 = 60 ∧ ¬ z3 = 61 ∧ ¬ z3 = 62 ∧ ¬ z3 = 124) := ((Decidable.em (z3 = 38)).elim Or.inl (fun n0 => Or.inr ((Decidable.em (z3 = 42)).elim Or.inl (fun n1 => Or.inr ((Decidable.em (z3 = 43)).elim Or.inl (fun n2 => Or.inr ((Decidable.em (z3 = 45)).elim Or.inl (fun n3 => Or.inr ((Decidable.em (z3 = 47)).elim Or.inl (fun n4 => Or.inr ((Decidable.em (z3 = 60)).elim Or.inl (fun n5 => Or.inr ((Decidable.em (z3 = 61)).elim Or.inl (fun n6 => Or.inr ((Decidable.em (z3 = 62)).elim Or.inl (fun n7 => Or.inr ((Decidable.em (z3 = 124)).elim Or.inl (fun n8 => Or.inr ⟨n0, n1, n2, n3, n4, n5, n6, n7, n8⟩))))))))))))))))))
    rcases hs4 with hs4 | hs4 | hs4 | hs4 | hs4 | hs4 | hs4 | hs4 | hs4 | hs4
    · refine w_sw (n := 3) (lsw_at hs4 (by decide)) ?_
      refine w_step rfl ?_
      refine w_push kc_m2 ?_
      refine w_retI rfl ?_
      exact ⟨rfl, (by omega), (by omega), (by first | (rw [hs.1 (by omega), ← hz3, hs4]; rfl) | (rw [hs.2 (by omega)]; rfl) | (rw [hs.1 (by omega)]; unfold sgF; (repeat' split) <;> omega))⟩
    · refine w_sw (n := 9) (lsw_at hs4 (by decide)) ?_
      refine w_step rfl ?_
      refine w_push kc_m8 ?_
      refine w_retI rfl ?_
      exact ⟨rfl, (by omega), (by omega), (by first | (rw [hs.1 (by omega), ← hz3, hs4]; rfl) | (rw [hs.2 (by omega)]; rfl) | (rw [hs.1 (by omega)]; unfold sgF; (repeat' split) <;> omega))⟩
    · refine w_sw (n := 7) (lsw_at hs4 (by decide)) ?_
      refine w_step rfl ?_
      refine w_push kc_m6 ?_
      refine w_retI rfl ?_
      exact ⟨rfl, (by omega), (by omega), (by first | (rw [hs.1 (by omega), ← hz3, hs4]; rfl) | (rw [hs.2 (by omega)]; rfl) | (rw [hs.1 (by omega)]; unfold sgF; (repeat' split) <;> omega))⟩
    · refine w_sw (n := 8) (lsw_at hs4 (by decide)) ?_
      refine w_step rfl ?_
      refine w_push kc_m7 ?_
      refine w_retI rfl ?_
      exact ⟨rfl, (by omega), (by omega), (by first | (rw [hs.1 (by omega), ← hz3, hs4]; rfl) | (rw [hs.2 (by omega)]; rfl) | (rw [hs.1 (by omega)]; unfold sgF; (repeat' split) <;> omega))⟩
    · refine w_sw (n := 10) (lsw_at hs4 (by decide)) ?_
      refine w_step rfl ?_
      refine w_push kc_m9 ?_
      refine w_retI rfl ?_
      exact ⟨rfl, (by omega), (by omega), (by first | (rw [hs.1 (by omega), ← hz3, hs4]; rfl) | (rw [hs.2 (by omega)]; rfl) | (rw [hs.1 (by omega)]; unfold sgF; (repeat' split) <;> omega))⟩
    · refine w_sw (n := 4) (lsw_at hs4 (by decide)) ?_
      refine w_step rfl ?_
      refine w_push kc_m3 ?_
      refine w_retI rfl ?_
      exact ⟨rfl, (by omega), (by omega), (by first | (rw [hs.1 (by omega), ← hz3, hs4]; rfl) | (rw [hs.2 (by omega)]; rfl) | (rw [hs.1 (by omega)]; unfold sgF; (repeat' split) <;> omega))⟩
    · refine w_sw (n := 5) (lsw_at hs4 (by decide)) ?_
      refine w_step rfl ?_
      refine w_push kc_m4 ?_
      refine w_retI rfl ?_
      exact ⟨rfl, (by omega), (by omega), (by first | (rw [hs.1 (by omega), ← hz3, hs4]; rfl) | (rw [hs.2 (by omega)]; rfl) | (rw [hs.1 (by omega)]; unfold sgF; (repeat' split) <;> omega))⟩
    · refine w_sw (n := 6) (lsw_at hs4 (by decide)) ?_
      refine w_step rfl ?_
      refine w_push kc_m5 ?_
      refine w_retI rfl ?_
      exact ⟨rfl, (by omega), (by omega), (by first | (rw [hs.1 (by omega), ← hz3, hs4]; rfl) | (rw [hs.2 (by omega)]; rfl) | (rw [hs.1 (by omega)]; unfold sgF; (repeat' split) <;> omega))⟩
    · refine w_sw (n := 2) (lsw_at hs4 (by decide)) ?_
      refine w_step rfl ?_
      refine w_push kc_m1 ?_
      refine w_retI rfl ?_
      exact ⟨rfl, (by omega), (by omega), (by first | (rw [hs.1 (by omega), ← hz3, hs4]; rfl) | (rw [hs.2 (by omega)]; rfl) | (rw [hs.1 (by omega)]; unfold sgF; (repeat' split) <;> omega))⟩
    · refine w_sw (n := 11) (lsw_df (by omega) (by simp only [List.mem_cons, List.not_mem_nil, or_false, forall_eq_or_imp, forall_eq]; omega)) ?_
      refine w_step rfl ?_
      refine w_push kc_0 ?_
      refine w_retI rfl ?_
      exact ⟨rfl, (by omega), (by omega), (by first | (rw [hs.1 (by omega), ← hz3, hs4]; rfl) | (rw [hs.2 (by omega)]; rfl) | (rw [hs.1 (by omega)]; unfold sgF; (repeat' split) <;> omega))⟩
  refine w_push kc_0 ?_
  refine w_retI rfl ?_
  exact ⟨rfl, (by omega), (by omega), (by first | (rw [hs.1 (by omega), ← hz3, hs4]; rfl) | (rw [hs.2 (by omega)]; rfl) | (rw [hs.1 (by omega)]; unfold sgF; (repeat' split) <;> omega))⟩
set_option maxRecDepth 100000 in
set_option maxHeartbeats 4000000 in
theorem e_X9_settle {d : Nat} {t : TS} {x : Int}  (ok : OK t) (q0 : EI t 1) (q1 : tI t 68 19 + tI t 68 22 ≤ 95) (q2 : 0 ≤ x) (q3 : x ≤ 6) : CV (EX FU (d + 2)) 195 [.ref 68, .int (jI x)] (mk t) (fun t' => OK t' ∧ Fr [(68, 19), (68, 22), (78, 100)] t t' ∧ (EI t' 1) ∧ (tI t' 68 22 ≤ tI t 68 22) ∧ (tI t' 68 19 + tI t' 68 22 = tI t 68 19 + tI t 68 22) ∧ (tI t' 68 22 = 0 ∨ tA t 79 (tI t' 68 22 - 1).toNat = -11 ∨ 0 < x) ∧ (noF (tA t 79) (tI t' 68 22).toNat = noF (tA t 79) (tI t 68 22).toNat) ∧ (SEq x t t')) := by
  refine CV_ent (d := d + 1) (Bk := bX9_settle) (nL := 2) rfl rfl rfl (Nat.le_of_ble_eq_true rfl) ?_
  show Rn _ 1000000 0 [some (.ref 68), some (.int (jI x))] [] _ _
  have fr : Fr [(68, 19), (68, 22), (78, 100)] t t := Fr.rf _ _
  have key0 : ∀ (n0 M0 : Nat) (t1 : TS), OK t1 → Fr [(68, 19), (68, 22), (78, 100)] t t1 → (EI t1 1) → (SEp x t t1) → (tI t1 68 22 ≤ tI t 68 22) → (tI t1 68 19 + tI t1 68 22 = tI t 68 19 + tI t 68 22) → (noF (tA t 79) (tI t1 68 22).toNat = noF (tA t 79) (tI t 68 22).toNat) → (0 ≤ tI t1 68 22) → tI t1 68 22 < (n0 : Int) → 60 * n0 + (1000) ≤ M0 → Rn (bX9_settle (EX FU (d + 1))) M0 0 [some (.ref 68), some (.int (jI x))] [] (mk t1) (PV (fun t' => OK t' ∧ Fr [(68, 19), (68, 22), (78, 100)] t t' ∧ (EI t' 1) ∧ (tI t' 68 22 ≤ tI t 68 22) ∧ (tI t' 68 19 + tI t' 68 22 = tI t 68 19 + tI t 68 22) ∧ (tI t' 68 22 = 0 ∨ tA t 79 (tI t' 68 22 - 1).toNat = -11 ∨ 0 < x) ∧ (noF (tA t 79) (tI t' 68 22).toNat = noF (tA t 79) (tI t 68 22).toNat) ∧ (SEq x t t'))) := by
    intro n0
    induction n0 with
    | zero => intro M0 t1 ok1 fr1 i0_0 i0_1 i0_2 i0_3 i0_4 i0_5 v0 f0; exfalso; omega
    | succ n0 ih0 =>
      intro M0 t1 ok1 fr1 i0_0 i0_1 i0_2 i0_3 i0_4 i0_5 v0 f0
      obtain ⟨M0, rfl⟩ : ∃ m, M0 = m + 60 := ⟨M0 - 60, by omega⟩
      have hr0 := ok1.f fe_68_22
      have hr1 := ok1.f fe_68_19
      have frs := fr1
      refine w_step rfl ?_
      refine w_aload rfl ?_
      refine w_getI (g_68_22 _) fe_68_22 ok1 (fun z2 hz2 hl2 hh2 => ?_)
      refine w_ile (by omega) (fun h3 => ?_) (fun h3 => ?_)
      · skip
        refine w_step rfl ?_
        refine w_retV ?_
        exact ⟨ok1, fr1, i0_0, (by omega), (by omega), (by omega), i0_4, (by first | exact se_0 i0_1 (by omega) | exact se_1 i0_1 (by omega) (by rw [frs.2.1 79 (by simp)]; omega) | omega)⟩
      refine w_aload rfl ?_
      refine w_getR (g_68_21 _) ?_
      refine w_aload rfl ?_
      refine w_getI (g_68_22 _) fe_68_22 ok1 (fun z4 hz4 hl4 hh4 => ?_)
      refine w_push kc_1 ?_
      refine w_sub ?_
      refine w_iald (i := ((z4 - 1)).toNat) (ai_79 _) (by omega) (by omega) (ae_79 _) ok1 (fun z5 hz5 hl5 hh5 => ?_)
      have eg : z5 = tA t 79 (tI t1 68 22 - 1).toNat := by
        rw [hz5, fr1.2.1 79 (by simp)]
        congr 2 <;> omega
      refine w_push kc_m11 ?_
      refine w_ceq (by omega) (fun h6 => ?_) (fun h6 => ?_)
      · skip
        refine w_step rfl ?_
        refine w_retV ?_
        exact ⟨ok1, fr1, i0_0, (by omega), (by omega), (by omega), i0_4, (by first | exact se_0 i0_1 (by omega) | exact se_1 i0_1 (by omega) (by rw [frs.2.1 79 (by simp)]; omega) | omega)⟩
      refine w_aload rfl ?_
      refine w_getR (g_68_21 _) ?_
      refine w_aload rfl ?_
      refine w_getI (g_68_22 _) fe_68_22 ok1 (fun z7 hz7 hl7 hh7 => ?_)
      refine w_push kc_1 ?_
      refine w_sub ?_
      refine w_iald (i := ((z7 - 1)).toNat) (ai_79 _) (by omega) (by omega) (ae_79 _) ok1 (fun z8 hz8 hl8 hh8 => ?_)
      have eg2 : z8 = tA t 79 (tI t1 68 22 - 1).toNat := by
        rw [hz8, fr1.2.1 79 (by simp)]
        congr 2 <;> omega
      refine w_callS1I rfl (e_X9_rank ok1 (by omega) (by omega)) ?_
      rintro z9 t9 ⟨rfl, hp9_0, hp9_1, hp9_2⟩
      have er : z9 = rkF (tA t 79 (tI t1 68 22 - 1).toNat) := by rw [hp9_2, eg2]
      refine w_iload rfl ?_
      refine w_clt (by omega) (fun h10 => ?_) (fun h10 => ?_)
      · skip
        refine w_step rfl ?_
        refine w_retV ?_
        exact ⟨ok1, fr1, i0_0, (by omega), (by omega), (by omega), i0_4, (by first | exact se_0 i0_1 (by omega) | exact se_1 i0_1 (by omega) (by rw [frs.2.1 79 (by simp)]; omega) | omega)⟩
      refine w_aload rfl ?_
      refine w_dupR ?_
      refine w_getI (g_68_22 _) fe_68_22 ok1 (fun z11 hz11 hl11 hh11 => ?_)
      refine w_push kc_1 ?_
      refine w_sub ?_
      refine w_putI (p_68_22 _) fe_68_22 ok1 (by omega) (fun t12 ht12 ok12 => ?_)
      have kf12_68_19 : tI t12 68 19 = tI t1 68 19 := by rw [ht12, tI_uI, if_neg (by decide)]
      have kf12_68_22 : tI t12 68 22 = (z11 - 1) := by rw [ht12, tI_uI, if_pos ⟨rfl, rfl⟩]
      have fr12 := fr1.uI ht12 (by simp)
      have p1 := ht12
      refine w_aload rfl ?_
      refine w_getR (g_68_18 _) ?_
      refine w_aload rfl ?_
      refine w_getI (g_68_19 _) fe_68_19 ok12 (fun z13 hz13 hl13 hh13 => ?_)
      refine w_aload rfl ?_
      refine w_getR (g_68_21 _) ?_
      refine w_aload rfl ?_
      refine w_getI (g_68_22 _) fe_68_22 ok12 (fun z14 hz14 hl14 hh14 => ?_)
      refine w_iald (i := (z14).toNat) (ai_79 _) (by omega) (by omega) (ae_79 _) ok12 (fun z15 hz15 hl15 hh15 => ?_)
      have ev : z15 = tA t 79 (tI t1 68 22 - 1).toNat := by
        rw [hz15, fr12.2.1 79 (by simp)]
        congr 2 <;> omega
      refine w_iast (i := (z13).toNat) (ai_78 _) rfl (by omega) (by omega) (ae_78 _) ok12 (by omega) (fun t16 ht16 ok16 => ?_)
      have kf16_68_19 : tI t16 68 19 = tI t12 68 19 := by rw [ht16]; rfl
      have kf16_68_22 : tI t16 68 22 = tI t12 68 22 := by rw [ht16]; rfl
      have fr16 := fr12.uA ht16 (by simp)
      have p2 := ht16
      refine w_aload rfl ?_
      refine w_dupR ?_
      refine w_getI (g_68_19 _) fe_68_19 ok16 (fun z17 hz17 hl17 hh17 => ?_)
      refine w_push kc_1 ?_
      refine w_add ?_
      refine w_putI (p_68_19 _) fe_68_19 ok16 (by omega) (fun t18 ht18 ok18 => ?_)
      have kf18_68_19 : tI t18 68 19 = (z17 + 1) := by rw [ht18, tI_uI, if_pos ⟨rfl, rfl⟩]
      have kf18_68_22 : tI t18 68 22 = tI t16 68 22 := by rw [ht18, tI_uI, if_neg (by decide)]
      have fr18 := fr16.uI ht18 (by simp)
      have p3 := ht18
      refine w_goto ?_
      have hh9 : (tI t1 68 22).toNat = (tI t18 68 22).toNat + 1 := by omega
      have hc9 : (tI t18 68 19).toNat = (tI t1 68 19).toNat + 1 := by omega
      have hi9 : (tI t1 68 22 - 1).toNat = (tI t18 68 22).toNat := by omega
      have sN : SEp x t t18 := se_n (a := tA t 79 (tI t1 68 22 - 1).toNat) i0_1 (by omega) (by rw [frs.2.1 79 (by simp)]) (by omega) (by omega) (by omega) (by omega) (by omega) (fun i => by rw [fr18.2.1 79 (by simp), frs.2.1 79 (by simp)]) (fun i => by
        rw [p3, tA_uI, p2, tA_uA]
        by_cases h9 : i = (tI t1 68 19).toNat
        · rw [if_pos (by omega), if_pos h9, ev]
        · rw [if_neg (by omega), if_neg h9, p1, tA_uI])
      rw [hi9] at ev eg
      have h79 : ∀ i, tA t18 79 i = tA t 79 i := fun i => fr18.2.1 79 (by simp) i
      have eN : EI t18 1 := by
        unfold EI
        rw [hc9]
        have e0 : EIf (tA t1 78) (tA t1 79) (tI t1 68 19).toNat ((tI t18 68 22).toNat + 1) 1 := by rw [← hh9]; exact i0_0
        have f9 : ∀ i, tA t1 79 i = tA t 79 i := fun i => frs.2.1 79 (by simp) i
        refine EIf.congr (EIf.pop (f' := tA t18 78) e0 ?_ ?_ ?_) (fun _ _ => rfl) (fun i _ => by rw [h79, f9])
        · rw [f9]; omega
        · rw [f9, ← ev, p3, tA_uI, p2, tA_uA, if_pos (by omega)]
        · intro i hi; rw [p3, tA_uI, p2, tA_uA, if_neg (by omega), p1, tA_uI]
      have oN : noF (tA t 79) (tI t18 68 22).toNat = noF (tA t 79) (tI t 68 22).toNat := by
        rw [← i0_4, hh9]
        show _ = noF (tA t 79) (tI t18 68 22).toNat + (if tA t 79 (tI t18 68 22).toNat = -11 then 1 else 0)
        rw [if_neg (by omega)]
        omega
      exact ih0 _ t18 ok18 fr18 eN sN (by omega) (by omega) oN (by omega) (by omega) (by omega)
  have hr0 := ok.f fe_68_22
  exact key0 97 _ t ok fr q0 rfl (by omega) (by omega) rfl (by omega) (by omega) (by omega)
