section
/-! ===== the reference's text, exact ===== -/
def c0T (t : TS) : PCu := stC (tA t 75) (tI t 68 9) (0, 3, 0, 0)
def c1T (t : TS) : PCu := stC (tA t 75) (tI t 68 9) (c0T t)
def sm69 (t u : TS) : Prop := ∀ i, tA u 69 i = tA t 69 i
def ADp (t u : TS) (q : Int) (n : Nat) (a : Int) (f : Nat → Int) (z : Int) : Prop := tA t 69 4 < 14 ∧ z = tA t 69 4 ∧ tA u 69 4 = tA t 69 4 + 1 ∧ tA u 69 (89 + 2 * (tA t 69 4).toNat) = 1000 * q + n ∧ tA u 69 (90 + 2 * (tA t 69 4).toNat) = a ∧ (∀ j, j < n → tA u 69 (117 + 96 * (tA t 69 4).toNat + j) = f j) ∧ ∀ i, ¬ i = 4 → ¬ i = 89 + 2 * (tA t 69 4).toNat → ¬ i = 90 + 2 * (tA t 69 4).toNat → (i < 117 + 96 * (tA t 69 4).toNat ∨ 213 + 96 * (tA t 69 4).toNat ≤ i) → tA u 69 i = tA t 69 i
def XTp (t : TS) (z : Int) (u : TS) : Prop := ∃ q, KYp (tA t 75) (c0T t) q ∧ ((q = -1 ∧ z = -100 - (c0T t).1 ∧ sm69 t u) ∨ (0 ≤ q ∧ ∃ T0 : Nat → Int, T0 0 = 0 ∧ ((∃ f, Rft (tA t 75) (tI t 68 9) q (c1T t, [], [], 0, 1, 0, 0, T0) f ∧ 0 ≤ f ∧ z = -100 - f ∧ sm69 t u) ∨ (∃ k n a f, syr (tA t 75) (tI t 68 9) q k (c1T t, [], [], 0, 1, 0, 0, T0) = some (-1, ls1 f n, a) ∧ ((tA t 69 4 = 14 ∧ z = -1000000003 ∧ sm69 t u) ∨ ADp t u q n a f z)))))
theorem go_0 {u : TS} (h10 : tI u 68 10 = 0) (h14 : tI u 68 14 = -1) : GO u (0, 3, 0, 0) := ⟨h10, fun h => by simp at h, fun _ => by show tI u 68 14 < 0; omega, by decide, by decide⟩
theorem wc_0 {t : TS} (h : 0 ≤ tI t 68 9) : WC (tI t 68 9) (c0T t) := (WC.st (c := (0, 3, 0, 0)) (by decide) h).1
theorem lk_0 (t : TS) : (c0T t).2.2.2 = 0 := by
  unfold c0T stC
  simp
theorem KC.fr {S : List (Nat × Nat)} {t u : TS} (h : KC t) (f : Fr S t u) (h1 : (76, 100) ∉ S) : KC u := by
  have e := f.2.1 76 h1
  exact ⟨fun i hi => by rw [e]; exact h.1 i hi, fun i hi => by rw [e]; exact h.2.1 i hi, fun i hi => by rw [e]; exact h.2.2 i hi⟩
theorem xt_a {t u : TS} {z : Int} (ky : KYp (tA t 75) (c0T t) (-1)) (hz : z = -100 - (c0T t).1) (s : sm69 t u) : XTp t z u := ⟨-1, ky, Or.inl ⟨rfl, hz, s⟩⟩
theorem xt_b {t d e u : TS} {q z y : Int} (g1 : tA d 75 = tA t 75) (g2 : tI d 68 9 = tI t 68 9) (hq : tI d 68 15 = q) (ky : KYp (tA t 75) (c0T t) q) (h0 : 0 ≤ q) (h : TFp d (c1T t) y e) (hy : y = 0) (h11 : 0 ≤ tI e 68 11) (hz : z = -100 - tI e 68 11) (s : sm69 t u) : XTp t z u := by
  obtain ⟨T0, hT0, h⟩ := h
  rw [g1, g2, hq] at h
  rcases h with h | h
  · exact absurd h.1 (by omega)
  · exact ⟨q, ky, Or.inr ⟨h0, T0, hT0, Or.inl ⟨_, h.2, h11, hz, s⟩⟩⟩
theorem xt_c {t d e u : TS} {q z y : Int} (g1 : tA d 75 = tA t 75) (g2 : tI d 68 9 = tI t 68 9) (hq : tI d 68 15 = q) (ky : KYp (tA t 75) (c0T t) q) (h0 : 0 ≤ q) (h : TFp d (c1T t) y e) (hy : ¬ y = 0) (hr : (tA t 69 4 = 14 ∧ z = -1000000003 ∧ sm69 t u) ∨ ADp t u q (tI e 68 19).toNat (tI e 68 20) (tA e 78) z) : XTp t z u := by
  obtain ⟨T0, hT0, h⟩ := h
  rw [g1, g2, hq] at h
  rcases h with h | h
  · obtain ⟨k, hk⟩ := h.2
    exact ⟨q, ky, Or.inr ⟨h0, T0, hT0, Or.inr ⟨k, _, _, _, hk, hr⟩⟩⟩
  · exact absurd h.1 hy
theorem tk_e {t c d : TS} {z : Int} (h : TKp c (c0T t) z d) (g1 : tA c 75 = tA t 75) (g2 : tI c 68 9 = tI t 68 9) (hz : ¬ z = 0) : CRx d (c1T t) ∧ KYp (tA t 75) (c0T t) (tI d 68 15) ∧ 0 ≤ tI d 68 15 := by
  unfold TKp at h
  rw [g1, g2] at h
  rcases h with h | h
  · exact ⟨h.2.2.2, h.2.1, h.2.2.1⟩
  · exact absurd h.1 hz
theorem tk_f {t c d : TS} {z : Int} (h : TKp c (c0T t) z d) (g1 : tA c 75 = tA t 75) (hz : z = 0) : KYp (tA t 75) (c0T t) (-1) ∧ d = c := by
  unfold TKp at h
  rw [g1] at h
  rcases h with h | h
  · exact absurd h.1 (by omega)
  · exact ⟨h.2.1, h.2.2⟩
end
section
set_option maxRecDepth 100000 in
set_option maxHeartbeats 4000000 in
theorem e_X9_text {d : Nat} {t : TS}  (ok : OK t) (q0 : WF t 69) (q1 : KC t) : CI (EX FU (d + 5)) 200 [.ref 68] (mk t) (fun z t' => OK t' ∧ Fr [(68, 10), (68, 11), (68, 12), (68, 13), (68, 14), (68, 9), (68, 15), (68, 19), (68, 20), (68, 22), (69, 100), (78, 100), (79, 100), (80, 100)] t t' ∧ (-2147483648 ≤ z) ∧ (z ≤ 2147483647) ∧ (tI t' 68 9 = 0) ∧ (WF t' 69) ∧ (∀ i, ¬ i = 4 → i < 89 → tA t' 69 i = tA t 69 i) ∧ (XTp t z t')) := by
  refine CI_ent (d := d + 4) (Bk := bX9_text) (nL := 4) rfl rfl rfl (Nat.le_of_ble_eq_true rfl) ?_
  show Rn _ 1000000 0 [some (.ref 68), none, none, none] [] _ _
  have fr : Fr [(68, 10), (68, 11), (68, 12), (68, 13), (68, 14), (68, 9), (68, 15), (68, 19), (68, 20), (68, 22), (69, 100), (78, 100), (79, 100), (80, 100)] t t := Fr.rf _ _
  have r9 := ok.f fe_68_9
  have r4 := ok.a (ax_69 nr_4)
  refine w_step rfl ?_
  refine w_aload rfl ?_
  refine w_push kc_0 ?_
  refine w_putI (p_68_10 _) fe_68_10 ok (by omega) (fun t1 ht1 ok1 => ?_)
  have kf1_68_9 : tI t1 68 9 = tI t 68 9 := by rw [ht1, tI_uI, if_neg (by decide)]
  have kf1_68_10 : tI t1 68 10 = 0 := by rw [ht1, tI_uI, if_pos ⟨rfl, rfl⟩]
  have kf1_68_11 : tI t1 68 11 = tI t 68 11 := by rw [ht1, tI_uI, if_neg (by decide)]
  have kf1_68_12 : tI t1 68 12 = tI t 68 12 := by rw [ht1, tI_uI, if_neg (by decide)]
  have kf1_68_13 : tI t1 68 13 = tI t 68 13 := by rw [ht1, tI_uI, if_neg (by decide)]
  have kf1_68_14 : tI t1 68 14 = tI t 68 14 := by rw [ht1, tI_uI, if_neg (by decide)]
  have kf1_68_19 : tI t1 68 19 = tI t 68 19 := by rw [ht1, tI_uI, if_neg (by decide)]
  have kf1_68_20 : tI t1 68 20 = tI t 68 20 := by rw [ht1, tI_uI, if_neg (by decide)]
  have kf1_68_22 : tI t1 68 22 = tI t 68 22 := by rw [ht1, tI_uI, if_neg (by decide)]
  have kf1_68_15 : tI t1 68 15 = tI t 68 15 := by rw [ht1, tI_uI, if_neg (by decide)]
  have fr1 := fr.uI ht1 (by simp)
  have f69 : ∀ i, tA t1 69 i = tA t 69 i := fun i => by rw [ht1, tA_uI]
  refine w_aload rfl ?_
  refine w_push kc_m1 ?_
  refine w_putI (p_68_14 _) fe_68_14 ok1 (by omega) (fun t2 ht2 ok2 => ?_)
  have kf2_68_9 : tI t2 68 9 = tI t1 68 9 := by rw [ht2, tI_uI, if_neg (by decide)]
  have kf2_68_10 : tI t2 68 10 = tI t1 68 10 := by rw [ht2, tI_uI, if_neg (by decide)]
  have kf2_68_11 : tI t2 68 11 = tI t1 68 11 := by rw [ht2, tI_uI, if_neg (by decide)]
  have kf2_68_12 : tI t2 68 12 = tI t1 68 12 := by rw [ht2, tI_uI, if_neg (by decide)]
  have kf2_68_13 : tI t2 68 13 = tI t1 68 13 := by rw [ht2, tI_uI, if_neg (by decide)]
  have kf2_68_14 : tI t2 68 14 = (-1) := by rw [ht2, tI_uI, if_pos ⟨rfl, rfl⟩]
  have kf2_68_19 : tI t2 68 19 = tI t1 68 19 := by rw [ht2, tI_uI, if_neg (by decide)]
  have kf2_68_20 : tI t2 68 20 = tI t1 68 20 := by rw [ht2, tI_uI, if_neg (by decide)]
  have kf2_68_22 : tI t2 68 22 = tI t1 68 22 := by rw [ht2, tI_uI, if_neg (by decide)]
  have kf2_68_15 : tI t2 68 15 = tI t1 68 15 := by rw [ht2, tI_uI, if_neg (by decide)]
  have fr2 := fr1.uI ht2 (by simp)
  have f69 : ∀ i, tA t2 69 i = tA t 69 i := fun i => by rw [ht2, tA_uI]; exact f69 i
  have g0 := go_0 (u := t2) (by omega) (by omega)
  refine w_aload rfl ?_
  refine w_callV0V (oj_68 _).choose_spec rfl (e_X9_go ok2 (by omega) g0) ?_
  rintro t3 ⟨ok3, fq3, hp3_0, hp3_1, hp3_2, hp3_3, hp3_4, hp3_5⟩
  have fr3 := fr2.then fq3 (by simp)
  have kf3_68_9 : tI t3 68 9 = tI t2 68 9 := fq3.1 68 9 (by simp)
  have kf3_68_19 : tI t3 68 19 = tI t2 68 19 := fq3.1 68 19 (by simp)
  have kf3_68_20 : tI t3 68 20 = tI t2 68 20 := fq3.1 68 20 (by simp)
  have kf3_68_22 : tI t3 68 22 = tI t2 68 22 := fq3.1 68 22 (by simp)
  have kf3_68_15 : tI t3 68 15 = tI t2 68 15 := fq3.1 68 15 (by simp)
  have f69 : ∀ i, tA t3 69 i = tA t 69 i := fun i => (fq3.2.1 69 (by simp) i).trans (f69 i)
  have cG0 : CRx t3 (c0T t) := by
    have h9 := hp3_5
    rw [show tA t2 75 = tA t 75 from funext (fr2.2.1 75 (by simp)), show tI t2 68 9 = tI t 68 9 by omega] at h9
    exact h9
  have w0c : WC (tI t3 68 9) (c0T t) := by
    rw [show tI t3 68 9 = tI t 68 9 by omega]
    exact wc_0 r9.1
  have kc := q1.fr fr3 (by simp)
  have tcE : tA t3 75 = tA t 75 := funext (fr3.2.1 75 (by simp))
  refine w_aload rfl ?_
  refine w_callV0I (oj_68 _).choose_spec rfl (e_X9_takesKey ok3 (by omega) (by omega) cG0 w0c (lk_0 t) kc) ?_
  rintro z4 t4 ⟨ok4, fq4, hp4_0, hp4_1, hp4_2, hp4_3, hp4_4, hp4_5, hp4_6, hp4_7⟩
  have fr4 := fr3.then fq4 (by simp)
  have kf4_68_9 : tI t4 68 9 = tI t3 68 9 := fq4.1 68 9 (by simp)
  have kf4_68_19 : tI t4 68 19 = tI t3 68 19 := fq4.1 68 19 (by simp)
  have kf4_68_20 : tI t4 68 20 = tI t3 68 20 := fq4.1 68 20 (by simp)
  have kf4_68_22 : tI t4 68 22 = tI t3 68 22 := fq4.1 68 22 (by simp)
  have f69 : ∀ i, tA t4 69 i = tA t 69 i := fun i => (fq4.2.1 69 (by simp) i).trans (f69 i)
  have kT := hp4_7
  have dE : ImpP (z4 = 0) (tI t4 68 11 = (c0T t).1) := fun h9 => by rw [(tk_f kT tcE h9).2]; exact cG0.1.1
  have gd : tA t4 75 = tA t 75 := funext (fr4.2.1 75 (by simp))
  refine w_ieq (by omega) (fun h5 => ?_) (fun h5 => ?_)
  · skip
    refine w_step rfl ?_
    refine w_push kc_0 ?_
    refine w_goto ?_
    refine w_step rfl ?_
    refine w_istore (lv' := [some (.ref 68), some (.int (jI 0)), none, none]) rfl ?_
    refine w_aload rfl ?_
    refine w_push kc_0 ?_
    refine w_putI (p_68_9 _) fe_68_9 ok4 (by omega) (fun t6 ht6 ok6 => ?_)
    have kf6_68_9 : tI t6 68 9 = 0 := by rw [ht6, tI_uI, if_pos ⟨rfl, rfl⟩]
    have kf6_68_10 : tI t6 68 10 = tI t4 68 10 := by rw [ht6, tI_uI, if_neg (by decide)]
    have kf6_68_11 : tI t6 68 11 = tI t4 68 11 := by rw [ht6, tI_uI, if_neg (by decide)]
    have kf6_68_12 : tI t6 68 12 = tI t4 68 12 := by rw [ht6, tI_uI, if_neg (by decide)]
    have kf6_68_13 : tI t6 68 13 = tI t4 68 13 := by rw [ht6, tI_uI, if_neg (by decide)]
    have kf6_68_14 : tI t6 68 14 = tI t4 68 14 := by rw [ht6, tI_uI, if_neg (by decide)]
    have kf6_68_19 : tI t6 68 19 = tI t4 68 19 := by rw [ht6, tI_uI, if_neg (by decide)]
    have kf6_68_20 : tI t6 68 20 = tI t4 68 20 := by rw [ht6, tI_uI, if_neg (by decide)]
    have kf6_68_22 : tI t6 68 22 = tI t4 68 22 := by rw [ht6, tI_uI, if_neg (by decide)]
    have kf6_68_15 : tI t6 68 15 = tI t4 68 15 := by rw [ht6, tI_uI, if_neg (by decide)]
    have fr6 := fr4.uI ht6 (by simp)
    have e9 := ht6
    have e69 : ∀ i, tA t6 69 i = tA t 69 i := fun i => by rw [ht6, tA_uI]; exact f69 i
    refine w_iload rfl ?_
    refine w_ine (by omega) (fun h => absurd h (by omega)) (fun _ => ?_)
    refine w_push kc_m100 ?_
    refine w_aload rfl ?_
    refine w_getI (g_68_11 _) fe_68_11 ok6 (fun z7 hz7 hl7 hh7 => ?_)
    have e11 := hz7
    refine w_sub ?_
    refine w_retI rfl ?_
    exact ⟨ok6, fr6, (by omega), (by omega), (by omega), (by first | exact (q0.same (fun i _ => e69 i)) | exact eF), (by first | exact (fun i _ _ => e69 i) | exact eG), (by first | exact xt_c gd (by omega) rfl (tk_e kT tcE (by omega) (by omega)).2.1 (tk_e kT tcE (by omega) (by omega)).2.2 fE (by omega) (Or.inr eH) | exact xt_c gd (by omega) rfl (tk_e kT tcE (by omega) (by omega)).2.1 (tk_e kT tcE (by omega) (by omega)).2.2 fE (by omega) (Or.inl ⟨by omega, rfl, e69⟩) | exact xt_b gd (by omega) rfl (tk_e kT tcE (by omega) (by omega)).2.1 (tk_e kT tcE (by omega) (by omega)).2.2 fE (by omega) (ok99qq.f fe_68_11).1 (by omega) e69 | exact xt_a (tk_f kT tcE (by omega)).1 (by have h9 := dE.go (by omega); omega) e69 | omega)⟩
  refine w_aload rfl ?_
  refine w_callV0I (oj_68 _).choose_spec rfl (e_X9_takesE ok4 (by omega) (by omega) (by omega) (by omega) (by omega) (tk_e kT tcE (by omega) (by omega)).1 (by rw [show tI t4 68 9 = tI t 68 9 by omega]; exact (WC.nx (wc_0 r9.1)).1)) ?_
  rintro z8 t8 ⟨ok8, fq8, hp8_0, hp8_1, hp8_2, hp8_3, hp8_4⟩
  have fr8 := fr4.then fq8 (by simp)
  have kf8_68_9 : tI t8 68 9 = tI t4 68 9 := fq8.1 68 9 (by simp)
  have kf8_68_15 : tI t8 68 15 = tI t4 68 15 := fq8.1 68 15 (by simp)
  have eW := hp8_2
  have f69 : ∀ i, tA t8 69 i = tA t 69 i := fun i => (fq8.2.1 69 (by simp) i).trans (f69 i)
  have fE := hp8_4
  refine w_ieq (by omega) (fun h9 => ?_) (fun h9 => ?_)
  · skip
    refine w_step rfl ?_
    refine w_push kc_0 ?_
    refine w_goto ?_
    refine w_step rfl ?_
    refine w_istore (lv' := [some (.ref 68), some (.int (jI 0)), none, none]) rfl ?_
    refine w_aload rfl ?_
    refine w_push kc_0 ?_
    refine w_putI (p_68_9 _) fe_68_9 ok8 (by omega) (fun t10 ht10 ok10 => ?_)
    have kf10_68_9 : tI t10 68 9 = 0 := by rw [ht10, tI_uI, if_pos ⟨rfl, rfl⟩]
    have kf10_68_10 : tI t10 68 10 = tI t8 68 10 := by rw [ht10, tI_uI, if_neg (by decide)]
    have kf10_68_11 : tI t10 68 11 = tI t8 68 11 := by rw [ht10, tI_uI, if_neg (by decide)]
    have kf10_68_12 : tI t10 68 12 = tI t8 68 12 := by rw [ht10, tI_uI, if_neg (by decide)]
    have kf10_68_13 : tI t10 68 13 = tI t8 68 13 := by rw [ht10, tI_uI, if_neg (by decide)]
    have kf10_68_14 : tI t10 68 14 = tI t8 68 14 := by rw [ht10, tI_uI, if_neg (by decide)]
    have kf10_68_19 : tI t10 68 19 = tI t8 68 19 := by rw [ht10, tI_uI, if_neg (by decide)]
    have kf10_68_20 : tI t10 68 20 = tI t8 68 20 := by rw [ht10, tI_uI, if_neg (by decide)]
    have kf10_68_22 : tI t10 68 22 = tI t8 68 22 := by rw [ht10, tI_uI, if_neg (by decide)]
    have kf10_68_15 : tI t10 68 15 = tI t8 68 15 := by rw [ht10, tI_uI, if_neg (by decide)]
    have fr10 := fr8.uI ht10 (by simp)
    have e9 := ht10
    have e69 : ∀ i, tA t10 69 i = tA t 69 i := fun i => by rw [ht10, tA_uI]; exact f69 i
    refine w_iload rfl ?_
    refine w_ine (by omega) (fun h => absurd h (by omega)) (fun _ => ?_)
    refine w_push kc_m100 ?_
    refine w_aload rfl ?_
    refine w_getI (g_68_11 _) fe_68_11 ok10 (fun z11 hz11 hl11 hh11 => ?_)
    have e11 := hz11
    refine w_sub ?_
    refine w_retI rfl ?_
    exact ⟨ok10, fr10, (by omega), (by omega), (by omega), (by first | exact (q0.same (fun i _ => e69 i)) | exact eF), (by first | exact (fun i _ _ => e69 i) | exact eG), (by first | exact xt_c gd (by omega) rfl (tk_e kT tcE (by omega) (by omega)).2.1 (tk_e kT tcE (by omega) (by omega)).2.2 fE (by omega) (Or.inr eH) | exact xt_c gd (by omega) rfl (tk_e kT tcE (by omega) (by omega)).2.1 (tk_e kT tcE (by omega) (by omega)).2.2 fE (by omega) (Or.inl ⟨by omega, rfl, e69⟩) | exact xt_b gd (by omega) rfl (tk_e kT tcE (by omega) (by omega)).2.1 (tk_e kT tcE (by omega) (by omega)).2.2 fE (by omega) (ok8.f fe_68_11).1 (by omega) e69 | exact xt_a (tk_f kT tcE (by omega)).1 (by have h9 := dE.go (by omega); omega) e69 | omega)⟩
  refine w_push kc_1 ?_
  refine w_goto ?_
  refine w_step rfl ?_
  refine w_istore (lv' := [some (.ref 68), some (.int (jI 1)), none, none]) rfl ?_
  refine w_aload rfl ?_
  refine w_push kc_0 ?_
  refine w_putI (p_68_9 _) fe_68_9 ok8 (by omega) (fun t12 ht12 ok12 => ?_)
  have kf12_68_9 : tI t12 68 9 = 0 := by rw [ht12, tI_uI, if_pos ⟨rfl, rfl⟩]
  have kf12_68_10 : tI t12 68 10 = tI t8 68 10 := by rw [ht12, tI_uI, if_neg (by decide)]
  have kf12_68_11 : tI t12 68 11 = tI t8 68 11 := by rw [ht12, tI_uI, if_neg (by decide)]
  have kf12_68_12 : tI t12 68 12 = tI t8 68 12 := by rw [ht12, tI_uI, if_neg (by decide)]
  have kf12_68_13 : tI t12 68 13 = tI t8 68 13 := by rw [ht12, tI_uI, if_neg (by decide)]
  have kf12_68_14 : tI t12 68 14 = tI t8 68 14 := by rw [ht12, tI_uI, if_neg (by decide)]
  have kf12_68_19 : tI t12 68 19 = tI t8 68 19 := by rw [ht12, tI_uI, if_neg (by decide)]
  have kf12_68_20 : tI t12 68 20 = tI t8 68 20 := by rw [ht12, tI_uI, if_neg (by decide)]
  have kf12_68_22 : tI t12 68 22 = tI t8 68 22 := by rw [ht12, tI_uI, if_neg (by decide)]
  have kf12_68_15 : tI t12 68 15 = tI t8 68 15 := by rw [ht12, tI_uI, if_neg (by decide)]
  have fr12 := fr8.uI ht12 (by simp)
  have e9 := ht12
  have e69 : ∀ i, tA t12 69 i = tA t 69 i := fun i => by rw [ht12, tA_uI]; exact f69 i
  refine w_iload rfl ?_
  refine w_ine (by omega) (fun _ => ?_) (fun h => absurd (by omega) h)
  refine w_step rfl ?_
  refine w_aload rfl ?_
  refine w_getR (g_68_0 _) ?_
  refine w_push kc_4 ?_
  refine w_iald (i := 4) (ai_69 _) (by omega) (by omega) (ax_69 nr_4) ok12 (fun z13 hz13 hl13 hh13 => ?_)
  have e34 : z13 = tA t 69 4 := by rw [hz13, e69]
  refine w_push kc_14 ?_
  refine w_cne (by omega) (fun h14 => ?_) (fun h14 => ?_)
  · skip
    refine w_step rfl ?_
    have w0 : wfC (tA t12 78) (tI t12 68 19).toNat := by rw [e9, tA_uI, tI_uI, if_neg (by decide)]; exact eW (by omega)
    have rc := ok12.f fe_68_15
    have rd := ok12.f fe_68_19
    refine w_aload rfl ?_
    refine w_getR (g_68_0 _) ?_
    refine w_push kc_4 ?_
    refine w_iald (i := 4) (ai_69 _) (by omega) (by omega) (ax_69 nr_4) ok12 (fun z15 hz15 hl15 hh15 => ?_)
    have eT : z15 = tA t 69 4 := by rw [hz15, e69]
    refine w_istore (lv' := [some (.ref 68), some (.int (jI 1)), some (.int (jI z15)), none]) rfl ?_
    refine w_aload rfl ?_
    refine w_getR (g_68_0 _) ?_
    refine w_push kc_89 ?_
    refine w_push kc_2 ?_
    refine w_iload rfl ?_
    refine w_mul ?_
    refine w_add ?_
    refine w_push kc_1000 ?_
    refine w_aload rfl ?_
    refine w_getI (g_68_15 _) fe_68_15 ok12 (fun z16 hz16 hl16 hh16 => ?_)
    refine w_mul ?_
    refine w_aload rfl ?_
    refine w_getI (g_68_19 _) fe_68_19 ok12 (fun z17 hz17 hl17 hh17 => ?_)
    refine w_add ?_
    refine w_iast (i := ((89 + (2 * z15))).toNat) (ai_69 _) rfl (by omega) (by omega) (ax_69 (nr_T0 (s := z15.toNat) (by omega))) ok12 (by omega) (fun t18 ht18 ok18 => ?_)
    have kf18_68_9 : tI t18 68 9 = tI t12 68 9 := by rw [ht18]; rfl
    have kf18_68_10 : tI t18 68 10 = tI t12 68 10 := by rw [ht18]; rfl
    have kf18_68_11 : tI t18 68 11 = tI t12 68 11 := by rw [ht18]; rfl
    have kf18_68_12 : tI t18 68 12 = tI t12 68 12 := by rw [ht18]; rfl
    have kf18_68_13 : tI t18 68 13 = tI t12 68 13 := by rw [ht18]; rfl
    have kf18_68_14 : tI t18 68 14 = tI t12 68 14 := by rw [ht18]; rfl
    have kf18_68_19 : tI t18 68 19 = tI t12 68 19 := by rw [ht18]; rfl
    have kf18_68_20 : tI t18 68 20 = tI t12 68 20 := by rw [ht18]; rfl
    have kf18_68_22 : tI t18 68 22 = tI t12 68 22 := by rw [ht18]; rfl
    have kf18_68_15 : tI t18 68 15 = tI t12 68 15 := by rw [ht18]; rfl
    have fr18 := fr12.uA ht18 (by simp)
    have p1 := ht18
    refine w_aload rfl ?_
    refine w_getR (g_68_0 _) ?_
    refine w_push kc_89 ?_
    refine w_push kc_2 ?_
    refine w_iload rfl ?_
    refine w_mul ?_
    refine w_add ?_
    refine w_push kc_1 ?_
    refine w_add ?_
    refine w_aload rfl ?_
    refine w_getI (g_68_20 _) fe_68_20 ok18 (fun z19 hz19 hl19 hh19 => ?_)
    refine w_iast (i := (((89 + (2 * z15)) + 1)).toNat) (ai_69 _) rfl (by omega) (by omega) (ax_69 (nr_T1 (s := z15.toNat) (by omega))) ok18 (by omega) (fun t20 ht20 ok20 => ?_)
    have kf20_68_9 : tI t20 68 9 = tI t18 68 9 := by rw [ht20]; rfl
    have kf20_68_10 : tI t20 68 10 = tI t18 68 10 := by rw [ht20]; rfl
    have kf20_68_11 : tI t20 68 11 = tI t18 68 11 := by rw [ht20]; rfl
    have kf20_68_12 : tI t20 68 12 = tI t18 68 12 := by rw [ht20]; rfl
    have kf20_68_13 : tI t20 68 13 = tI t18 68 13 := by rw [ht20]; rfl
    have kf20_68_14 : tI t20 68 14 = tI t18 68 14 := by rw [ht20]; rfl
    have kf20_68_19 : tI t20 68 19 = tI t18 68 19 := by rw [ht20]; rfl
    have kf20_68_20 : tI t20 68 20 = tI t18 68 20 := by rw [ht20]; rfl
    have kf20_68_22 : tI t20 68 22 = tI t18 68 22 := by rw [ht20]; rfl
    have kf20_68_15 : tI t20 68 15 = tI t18 68 15 := by rw [ht20]; rfl
    have fr20 := fr18.uA ht20 (by simp)
    have p2 := ht20
    refine w_push kc_0 ?_
    refine w_istore (lv' := [some (.ref 68), some (.int (jI 1)), some (.int (jI z15)), some (.int (jI 0))]) rfl ?_
    refine w_goto ?_
    have key5 : ∀ (n5 M5 : Nat) (k : Int) (t21 : TS), OK t21 → Fr [(68, 10), (68, 11), (68, 12), (68, 13), (68, 14), (68, 9), (68, 15), (68, 19), (68, 20), (68, 22), (69, 100), (78, 100), (79, 100), (80, 100)] t t21 → (0 ≤ k) → (k ≤ tI t21 68 19) → (tI t21 68 19 = tI t20 68 19) → (tI t21 68 9 = tI t20 68 9) → (∀ j, tA t21 78 j = tA t20 78 j) → (∀ j : Nat, (j : Int) < k → tA t21 69 (117 + 96 * z15.toNat + j) = tA t20 78 j) → (∀ i, (i < 117 + 96 * z15.toNat ∨ 213 + 96 * z15.toNat ≤ i) → tA t21 69 i = tA t20 69 i) → 96 - k < (n5 : Int) → 60 * n5 + (1000) ≤ M5 → Rn (bX9_text (EX FU (d + 4))) M5 5 [some (.ref 68), some (.int (jI 1)), some (.int (jI z15)), some (.int (jI k))] [] (mk t21) (PI (fun z t' => OK t' ∧ Fr [(68, 10), (68, 11), (68, 12), (68, 13), (68, 14), (68, 9), (68, 15), (68, 19), (68, 20), (68, 22), (69, 100), (78, 100), (79, 100), (80, 100)] t t' ∧ (-2147483648 ≤ z) ∧ (z ≤ 2147483647) ∧ (tI t' 68 9 = 0) ∧ (WF t' 69) ∧ (∀ i, ¬ i = 4 → i < 89 → tA t' 69 i = tA t 69 i) ∧ (XTp t z t'))) := by
      intro n5
      induction n5 with
      | zero => intro M5 k t21 ok21 fr21 i5_0 i5_1 i5_2 i5_3 i5_4 i5_5 i5_6 v5 f5; exfalso; omega
      | succ n5 ih5 =>
        intro M5 k t21 ok21 fr21 i5_0 i5_1 i5_2 i5_3 i5_4 i5_5 i5_6 v5 f5
        obtain ⟨M5, rfl⟩ : ∃ m, M5 = m + 60 := ⟨M5 - 60, by omega⟩
        have rk := ok21.f fe_68_19
        refine w_step rfl ?_
        refine w_iload rfl ?_
        refine w_aload rfl ?_
        refine w_getI (g_68_19 _) fe_68_19 ok21 (fun z22 hz22 hl22 hh22 => ?_)
        refine w_cge (by omega) (fun h23 => ?_) (fun h23 => ?_)
        · skip
          refine w_step rfl ?_
          refine w_aload rfl ?_
          refine w_getR (g_68_0 _) ?_
          refine w_push kc_4 ?_
          refine w_dup2 ?_
          refine w_iald (i := 4) (ai_69 _) (by omega) (by omega) (ax_69 nr_4) ok21 (fun z24 hz24 hl24 hh24 => ?_)
          have e4 : z24 = tA t 69 4 := by rw [hz24, i5_6 4 (by omega), p2, tA_uA, if_neg (by omega), p1, tA_uA, if_neg (by omega)]; exact e69 4
          refine w_push kc_1 ?_
          refine w_add ?_
          refine w_iast (i := 4) (ai_69 _) rfl (by omega) (by omega) (ax_69 nr_4) ok21 (by omega) (fun t25 ht25 ok25 => ?_)
          have kf25_68_9 : tI t25 68 9 = tI t21 68 9 := by rw [ht25]; rfl
          have kf25_68_10 : tI t25 68 10 = tI t21 68 10 := by rw [ht25]; rfl
          have kf25_68_11 : tI t25 68 11 = tI t21 68 11 := by rw [ht25]; rfl
          have kf25_68_12 : tI t25 68 12 = tI t21 68 12 := by rw [ht25]; rfl
          have kf25_68_13 : tI t25 68 13 = tI t21 68 13 := by rw [ht25]; rfl
          have kf25_68_14 : tI t25 68 14 = tI t21 68 14 := by rw [ht25]; rfl
          have kf25_68_19 : tI t25 68 19 = tI t21 68 19 := by rw [ht25]; rfl
          have kf25_68_20 : tI t25 68 20 = tI t21 68 20 := by rw [ht25]; rfl
          have kf25_68_22 : tI t25 68 22 = tI t21 68 22 := by rw [ht25]; rfl
          have kf25_68_15 : tI t25 68 15 = tI t21 68 15 := by rw [ht25]; rfl
          have fr25 := fr21.uA ht25 (by simp)
          have p4 := ht25
          obtain ⟨cN, hcN⟩ : ∃ n : Nat, n = (tI t20 68 19).toNat := ⟨_, rfl⟩
          have eF : WF t25 69 := by
            refine WF_add (T := z15.toNat) (c := cN) (f := tA t20 78) q0 (by omega) ?_ ?_ (by omega) ?_ ?_ (by omega) ?_
            · rw [p4, tA_uA, if_pos ⟨rfl, rfl⟩]; omega
            · rw [p4, tA_uA, if_neg (by omega), i5_6 _ (by omega), p2, tA_uA, if_neg (by omega), p1, tA_uA, if_pos (by omega)]; omega
            · have h78 : ∀ j, tA t20 78 j = tA t12 78 j := fun j => by rw [p2, tA_uA, if_neg (by omega), p1, tA_uA, if_neg (by omega)]
              have h19 : cN = (tI t12 68 19).toNat := by omega
              rw [h19]; exact wfC_congr (fun j _ => (h78 j).symm) w0
            · intro j hj; rw [p4, tA_uA, if_neg (by omega)]; exact i5_5 j (by omega)
            · intro i hi; rw [p4, tA_uA, if_neg (by omega), i5_6 i (by omega), p2, tA_uA, if_neg (by omega), p1, tA_uA, if_neg (by omega)]; exact e69 i
          have eG : ∀ i, ¬ i = 4 → i < 89 → tA t25 69 i = tA t 69 i := fun i h1 h2 => by rw [p4, tA_uA, if_neg (by omega), i5_6 i (by omega), p2, tA_uA, if_neg (by omega), p1, tA_uA, if_neg (by omega)]; exact e69 i
          have eH : ADp t t25 (tI t4 68 15) (tI t8 68 19).toNat (tI t8 68 20) (tA t8 78) (z15) := by
            unfold ADp
            rw [show (tA t 69 4).toNat = z15.toNat by omega]
            refine ⟨by omega, by omega, ?_, ?_, ?_, ?_, ?_⟩
            · rw [p4, tA_uA, if_pos ⟨rfl, rfl⟩]; omega
            · rw [p4, tA_uA, if_neg (by omega), i5_6 _ (by omega), p2, tA_uA, if_neg (by omega), p1, tA_uA, if_pos (by omega)]; omega
            · rw [p4, tA_uA, if_neg (by omega), i5_6 _ (by omega), p2, tA_uA, if_pos (by omega)]; omega
            · intro j hj
              rw [p4, tA_uA, if_neg (by omega), i5_5 j (by omega), p2, tA_uA, if_neg (by omega), p1, tA_uA, if_neg (by omega), e9, tA_uI]
            · intro i h4 h89 h90 hr
              rw [p4, tA_uA, if_neg (by omega), i5_6 i (by omega), p2, tA_uA, if_neg (by omega), p1, tA_uA, if_neg (by omega)]
              exact e69 i
          refine w_iload rfl ?_
          refine w_retI rfl ?_
          exact ⟨ok25, fr25, (by omega), (by omega), (by omega), (by first | exact (q0.same (fun i _ => e69 i)) | exact eF), (by first | exact (fun i _ _ => e69 i) | exact eG), (by first | exact xt_c gd (by omega) rfl (tk_e kT tcE (by omega) (by omega)).2.1 (tk_e kT tcE (by omega) (by omega)).2.2 fE (by omega) (Or.inr eH) | exact xt_c gd (by omega) rfl (tk_e kT tcE (by omega) (by omega)).2.1 (tk_e kT tcE (by omega) (by omega)).2.2 fE (by omega) (Or.inl ⟨by omega, rfl, e69⟩) | exact xt_b gd (by omega) rfl (tk_e kT tcE (by omega) (by omega)).2.1 (tk_e kT tcE (by omega) (by omega)).2.2 fE (by omega) (ok8.f fe_68_11).1 (by omega) e69 | exact xt_a (tk_f kT tcE (by omega)).1 (by have h9 := dE.go (by omega); omega) e69 | omega)⟩
        refine w_aload rfl ?_
        refine w_getR (g_68_0 _) ?_
        refine w_push kc_117 ?_
        refine w_push kc_96 ?_
        refine w_iload rfl ?_
        refine w_mul ?_
        refine w_add ?_
        refine w_iload rfl ?_
        refine w_add ?_
        refine w_aload rfl ?_
        refine w_getR (g_68_18 _) ?_
        refine w_iload rfl ?_
        refine w_iald (i := (k).toNat) (ai_78 _) (by omega) (by omega) (ae_78 _) ok21 (fun z26 hz26 hl26 hh26 => ?_)
        have ev := hz26
        refine w_iast (i := (((117 + (96 * z15)) + k)).toNat) (ai_69 _) rfl (by omega) (by omega) (ax_69 (nr_C (by omega))) ok21 (by omega) (fun t27 ht27 ok27 => ?_)
        have kf27_68_9 : tI t27 68 9 = tI t21 68 9 := by rw [ht27]; rfl
        have kf27_68_10 : tI t27 68 10 = tI t21 68 10 := by rw [ht27]; rfl
        have kf27_68_11 : tI t27 68 11 = tI t21 68 11 := by rw [ht27]; rfl
        have kf27_68_12 : tI t27 68 12 = tI t21 68 12 := by rw [ht27]; rfl
        have kf27_68_13 : tI t27 68 13 = tI t21 68 13 := by rw [ht27]; rfl
        have kf27_68_14 : tI t27 68 14 = tI t21 68 14 := by rw [ht27]; rfl
        have kf27_68_19 : tI t27 68 19 = tI t21 68 19 := by rw [ht27]; rfl
        have kf27_68_20 : tI t27 68 20 = tI t21 68 20 := by rw [ht27]; rfl
        have kf27_68_22 : tI t27 68 22 = tI t21 68 22 := by rw [ht27]; rfl
        have kf27_68_15 : tI t27 68 15 = tI t21 68 15 := by rw [ht27]; rfl
        have fr27 := fr21.uA ht27 (by simp)
        have p3 := ht27
        refine w_iinc (lv' := [some (.ref 68), some (.int (jI 1)), some (.int (jI z15)), some (.int (jI (k + 1)))]) kc_1 rfl rfl ?_
        refine w_goto ?_
        have eJ : ∀ j : Nat, (j : Int) < k + 1 → tA t27 69 (117 + 96 * z15.toNat + j) = tA t20 78 j := by
          intro j hj
          rw [p3, tA_uA]
          by_cases h9 : j = k.toNat
          · rw [if_pos (by omega), ev, h9]; exact i5_4 _
          · rw [if_neg (by omega)]; exact i5_5 j (by omega)
        exact ih5 _ (k + 1) t27 ok27 fr27 (by omega) (by omega) (by omega) (by omega) (by intro j; rw [p3, tA_uA, if_neg (by omega)]; exact i5_4 j) eJ (by intro i hi; rw [p3, tA_uA, if_neg (by omega)]; exact i5_6 i hi) (by omega) (by omega)
    exact key5 97 _ 0 t20 ok20 fr20 (by omega) (by omega) (by omega) (by omega) (fun _ => rfl) (by intro j hj; omega) (fun _ _ => rfl) (by omega) (by omega)
  refine w_push kc_m1000000003 ?_
  refine w_retI rfl ?_
  exact ⟨ok12, fr12, (by omega), (by omega), (by omega), (by first | exact (q0.same (fun i _ => e69 i)) | exact eF), (by first | exact (fun i _ _ => e69 i) | exact eG), (by first | exact xt_c gd (by omega) rfl (tk_e kT tcE (by omega) (by omega)).2.1 (tk_e kT tcE (by omega) (by omega)).2.2 fE (by omega) (Or.inr eH) | exact xt_c gd (by omega) rfl (tk_e kT tcE (by omega) (by omega)).2.1 (tk_e kT tcE (by omega) (by omega)).2.2 fE (by omega) (Or.inl ⟨by omega, rfl, e69⟩) | exact xt_b gd (by omega) rfl (tk_e kT tcE (by omega) (by omega)).2.1 (tk_e kT tcE (by omega) (by omega)).2.2 fE (by omega) (ok8.f fe_68_11).1 (by omega) e69 | exact xt_a (tk_f kT tcE (by omega)).1 (by have h9 := dE.go (by omega); omega) e69 | omega)⟩
end
section
/-! ===== the class's readText and text, exact (DRAFT: not yet compiled) ===== -/
def b0T (t : TS) : PCu := stC (tA t 38) (tI t 37 1) (0, 3, 0, 0)
def b1T (t : TS) : PCu := stC (tA t 38) (tI t 37 1) (b0T t)
def yT (t : TS) (q : Int) : PPs := RD (tA t 38) (tI t 37 1) q 80 0 0 0 (b1T t, [], 0, -1)
def RTp (t : TS) (z : Option Nat) (u : TS) : Prop := ∃ q, KYp (tA t 38) (b0T t) q ∧ ((q = -1 ∧ z = none ∧ tI u 39 0 = (b0T t).1 ∧ (tD u).map Dhd = (tD t).map Dhd) ∨ (0 ≤ q ∧ ((z = none ∧ ((¬ (yT t q).2.2.2 = -1 ∧ tI u 39 0 = (yT t q).2.2.2) ∨ ((yT t q).2.2.2 = -1 ∧ ¬ (yT t q).1.2.1 = 0 ∧ tI u 39 0 = (yT t q).1.1)) ∧ (tD u).map Dhd = (tD t).map Dhd) ∨ (z = some (92 + 4 * (tD t).length) ∧ (yT t q).2.2.2 = -1 ∧ (yT t q).1.2.1 = 0 ∧ ∃ (n : Nat) (f g : Nat → Int) (st : List Int32), n ≤ 95 ∧ (yT t q).2.1 = lsP f g n ∧ (tD u).map Dhd = (tD t).map Dhd ++ [Dhd (q, (yT t q).2.2.1, (row 96 f).take n, (row 96 g).take n, st)] ∧ (st.length : Int) = (yT t q).2.2.1 ∧ (∀ i, -2147483648 ≤ f i ∧ f i ≤ 2147483647) ∧ ∀ i, -2147483648 ≤ g i ∧ g i ≤ 2147483647))))
theorem rd_blk6x {d : Nat} {t : TS} {key : Int} {N : Nat} {B : List ab_K} {Q : Option Nat → TS → Prop} (ok : OK t) (hk : 0 ≤ key ∧ key ≤ 2) (hl : tI t 39 4 ≤ 95) (hD : (tD t).length ≤ 100000) (hQ : ∀ x, TXok x → x = (key, tI t 39 5, (row 96 (tA t 40)).take (tI t 39 4).toNat, (row 96 (tA t 41)).take (tI t 39 4).toNat, List.replicate (tI t 39 5).toNat 0) → Q (some (92 + 4 * (tD t).length)) (uD t (tD t ++ [x]))) : Rp B N (bX1_readText_6 (EX FU (d + 1))) [some (.ref 39), some (.int (jI key))] [] (mk t) (PR Q) := by
  have r4 := ok.f fe_39_4
  have r5 := ok.f fe_39_5
  have hn := mk_len t
  have a40 := (ai_40 t).1
  have a41 := (ai_41 t).1
  obtain ⟨x, hx⟩ : ∃ x : TX, x = (key, tI t 39 5, (row 96 (tA t 40)).take (tI t 39 4).toNat, (row 96 (tA t 41)).take (tI t 39 4).toNat, List.replicate (tI t 39 5).toNat 0) := ⟨_, rfl⟩
  have hok : TXok x := by
    subst hx
    refine ⟨hk, r5, ?_, ?_, ?_⟩
    · show ((row 96 (tA t 40)).take _).length ≤ 95
      rw [List.length_take, row_len]; omega
    · show ((row 96 (tA t 41)).take _).length ≤ 95
      rw [List.length_take, row_len]; omega
    · show (List.replicate (tI t 39 5).toNat (0 : Int32)).length ≤ 96
      rw [List.length_replicate]; omega
  refine Rp_end (v := some (.ref (mk t).length)) (w' := mk (uD t (tD t ++ [x]))) ?_ ⟨some (mk t).length, _, rfl, rfl, by rw [hn]; exact hQ x hok hx⟩
  show Rb B N (bX1_readText_6 (EX FU (d + 1))) _ _ _ _
  unfold bX1_readText_6
  refine rb_new (by omega) ?_
  refine rb_dupR ?_
  refine rb_iload rfl ?_
  refine rb_aload rfl ?_
  refine rb_getf (gf_app (g_39_5 t)) ?_
  refine rb_aload rfl ?_
  refine rb_getf (gf_app (g_39_2 t)) ?_
  refine rb_aload rfl ?_
  refine rb_getf (gf_app (g_39_4 t)) ?_
  refine rb_callS2 rfl (c_copyOf (d := d) (ia_app a40) (by rw [row_len]; omega) (by rw [row_len]; omega) (by simp; omega)) ?_
  refine rb_aload rfl ?_
  refine rb_getf (gf_app (gf_app (g_39_3 t))) ?_
  refine rb_aload rfl ?_
  refine rb_getf (gf_app (gf_app (g_39_4 t))) ?_
  refine rb_callS2 rfl (c_copyOf (d := d) (ia_app (ia_app a41)) (by rw [row_len]; omega) (by rw [row_len]; omega) (by simp; omega)) ?_
  rw [List.append_assoc, List.append_assoc]
  refine rb_callI4v rfl (c_Tinit (d := d) (W := mk t) (k := key) (ops := tI t 39 5) r5 (by omega)) ?_
  refine rb_ret rfl ?_
  rw [mk_app, hx]
  simp [quad]
theorem rt_1 {t b c : TS} (r1 : Rd c = stP (tA b 38) (tI b 37 1) (Rd b)) (g1 : tA b 38 = tA t 38) (g2 : tI b 37 1 = tI t 37 1) (hc : cuR b = b0T t) (h4 : tI b 39 4 = 0) (h5 : tI b 39 5 = 0) (h0 : tI b 39 0 = -1) : Rd c = (b1T t, [], 0, -1) := by
  rw [r1, g1, g2]
  unfold Rd stP ouR
  rw [hc, h4, h5, h0]
  rfl
theorem rt_2 {t c d : TS} {q : Int} (h : RLp 0 0 0 c d) (r : Rd c = (b1T t, [], 0, -1)) (g1 : tA c 38 = tA t 38) (g2 : tI c 37 1 = tI t 37 1) (hq : kyN c = q) : Rd d = yT t q := by
  rw [h 80 (by decide), r]
  unfold RDt yT
  rw [g1, g2, hq]
theorem rt_n {t u : TS} {q : Int} (ky : KYp (tA t 38) (b0T t) q) (hq : q = -1) (h0 : tI u 39 0 = (b0T t).1) (hD : (tD u).map Dhd = (tD t).map Dhd) : RTp t none u := ⟨q, ky, Or.inl ⟨hq, rfl, h0, hD⟩⟩
theorem rt_f {t d u : TS} {q : Int} (ky : KYp (tA t 38) (b0T t) q) (hq : 0 ≤ q) (y : Rd d = yT t q) (h : (¬ tI d 39 0 = -1 ∧ tI u 39 0 = tI d 39 0) ∨ (tI d 39 0 = -1 ∧ ¬ tI d 39 7 = 0 ∧ tI u 39 0 = tI d 39 8)) (hD : (tD u).map Dhd = (tD t).map Dhd) : RTp t none u := by
  refine ⟨q, ky, Or.inr ⟨hq, Or.inl ⟨rfl, ?_, hD⟩⟩⟩
  rw [← y]
  exact h
theorem rt_s {t d : TS} {q : Int} {x : TX} (okd : OK d) (ky : KYp (tA t 38) (b0T t) q) (hq : 0 ≤ q) (y : Rd d = yT t q) (h0 : tI d 39 0 = -1) (h7 : tI d 39 7 = 0) (h4 : tI d 39 4 ≤ 95) (hD : (tD d).map Dhd = (tD t).map Dhd) (hl : (tD d).length = (tD t).length) (hx : x = (q, tI d 39 5, (row 96 (tA d 40)).take (tI d 39 4).toNat, (row 96 (tA d 41)).take (tI d 39 4).toNat, List.replicate (tI d 39 5).toNat 0)) : RTp t (some (92 + 4 * (tD d).length)) (uD d (tD d ++ [x])) := by
  have r5 := okd.f fe_39_5
  refine ⟨q, ky, Or.inr ⟨hq, Or.inr ⟨by rw [hl], ?_, ?_, (tI d 39 4).toNat, tA d 40, tA d 41, List.replicate (tI d 39 5).toNat 0, by omega, ?_, ?_, ?_, fun i => ?_, fun i => ?_⟩⟩⟩
  · rw [← y]; exact h0
  · rw [← y]; exact h7
  · rw [← y]; rfl
  · show (tD d ++ [x]).map Dhd = _
    rw [List.map_append, hD, hx, ← y]
    rfl
  · rw [← y, List.length_replicate]
    show ((tI d 39 5).toNat : Int) = tI d 39 5
    omega
  · have := okd.a (ae_40 i)
    omega
  · exact okd.a (ae_41 i)
/-! ===== one text more, of the game ===== -/
def XFp (t : TS) (f : Int) : Prop := ∃ q, KYp (tA t 38) (b0T t) q ∧ ((q = -1 ∧ f = (b0T t).1) ∨ (0 ≤ q ∧ ((¬ (yT t q).2.2.2 = -1 ∧ f = (yT t q).2.2.2) ∨ ((yT t q).2.2.2 = -1 ∧ ¬ (yT t q).1.2.1 = 0 ∧ f = (yT t q).1.1))))
def XSp (t : TS) (x : TX) : Prop := ∃ (n : Nat) (f g : Nat → Int), KYp (tA t 38) (b0T t) x.1 ∧ 0 ≤ x.1 ∧ (yT t x.1).2.2.2 = -1 ∧ (yT t x.1).1.2.1 = 0 ∧ (yT t x.1).2.1 = lsP f g n ∧ x.2.1 = (yT t x.1).2.2.1 ∧ x.2.2.1.length = n ∧ (∀ i, i < n → xcF x i = trF (f i, g i)) ∧ GVx x
def sm1 (t u : TS) : Prop := tI u 1 11 = tI t 1 11 ∧ (∀ i, tT u 10 i = tT t 10 i) ∧ (∀ i, tA u 11 i = tA t 11 i) ∧ ∀ i, tA u 9 i = tA t 9 i
def ATq (t u : TS) (x : TX) : Prop := tI u 1 11 = tI t 1 11 + 1 ∧ (∀ i : Nat, tT u 10 i = if i = (tI t 1 11).toNat then some (92 + 4 * (tD t).length) else tT t 10 i) ∧ (∀ i : Nat, tA u 11 i = if i = x.1.toNat then tI t 1 11 else tA t 11 i) ∧ ((¬ x.1 = 0 ∧ ∀ i, tA u 9 i = tA t 9 i) ∨ (x.1 = 0 ∧ DK u 1 (tI t 1 10)))
def XCp (t : TS) (z : Int) (u : TS) : Prop := (∃ f, XFp t f ∧ z = -100 - f ∧ sm1 t u ∧ (tD u).map Dhd = (tD t).map Dhd) ∨ ∃ x, XSp t x ∧ (tD u).map Dhd = (tD t).map Dhd ++ [Dhd x] ∧ ((14 ≤ tI t 1 11 ∧ z = -1000000003 ∧ sm1 t u) ∨ (tI t 1 11 < 14 ∧ z = tI t 1 11 ∧ ATq t u x))
theorem rt_xf {t u : TS} (h : RTp t none u) : XFp t (tI u 39 0) ∧ (tD u).map Dhd = (tD t).map Dhd := by
  obtain ⟨q, ky, h⟩ := h
  rcases h with h | ⟨h0, h | h⟩
  · exact ⟨⟨q, ky, Or.inl ⟨h.1, h.2.2.1⟩⟩, h.2.2.2⟩
  · exact ⟨⟨q, ky, Or.inr ⟨h0, h.2.1⟩⟩, h.2.2⟩
  · cases h.1
theorem xs_mk {t : TS} {x : TX} {q : Int} {n : Nat} {f g : Nat → Int} (e : x.1 = q) (ky : KYp (tA t 38) (b0T t) q) (h0 : 0 ≤ q) (h2 : (yT t q).2.2.2 = -1) (h3 : (yT t q).1.2.1 = 0) (h5 : (yT t q).2.1 = lsP f g n) (h6 : x.2.1 = (yT t q).2.2.1) (h7 : x.2.2.1.length = n) (h8 : ∀ i, i < n → xcF x i = trF (f i, g i)) (gv : GVx x) : XSp t x := by
  subst e
  exact ⟨n, f, g, ky, h0, h2, h3, h5, h6, h7, h8, gv⟩
theorem rt_xs {t u : TS} {r : Nat} (ok : OK t) (h : RTp t (some r) u) : r = 92 + 4 * (tD t).length ∧ ∃ x, XSp t x ∧ (tD u).map Dhd = (tD t).map Dhd ++ [Dhd x] := by
  obtain ⟨q, ky, h⟩ := h
  rcases h with h | ⟨h0, h | h⟩
  · cases h.2.1
  · cases h.1
  · obtain ⟨h1, h2, h3, n, f, g, st, h4, h5, h6, h7, h8, h9⟩ := h
    have r37 := ok.f fe_37_1
    have w0 : WC (tI t 37 1) (b0T t) := (WC.st (g := tA t 38) (c := (0, 3, 0, 0)) (by decide) r37.1).1
    have w1 := WC.nx (g := tA t 38) w0
    have c1 : CN (tA t 38) (b1T t) := CN.st ⟨by have := w0.1; have := w0.2.1; omega, w0.2.2.1⟩
    obtain ⟨a, ea⟩ : ∃ a, (yT t q).2.2.1 = a := ⟨_, rfl⟩
    rw [ea] at h6 h7
    have gv := rd_gv (g := tA t 38) (n := tI t 37 1) (q := q) (by omega) w1.1 c1 (st := st) h4 h2 h3 h5 ea h7 h8 h9
    have hl : ((row 96 f).take n).length = n := by
      rw [List.length_take, row_len]
      omega
    exact ⟨Option.some.inj h1, (q, a, (row 96 f).take n, (row 96 g).take n, st), xs_mk (q := q) rfl ky h0 h2 h3 h5 ea.symm hl gv.2 gv.1, h6⟩
theorem sm1_of {S : List (Nat × Nat)} {t u v : TS} (f : FrD S t u) (e : v = uI u 37 1 0) (h11 : (1, 11) ∉ S) (h10 : (10, 101) ∉ S) (k11 : (11, 100) ∉ S) (k9 : (9, 100) ∉ S) : sm1 t v := by
  subst e
  refine ⟨?_, fun i => f.2.2 _ h10 i, fun i => f.2.1 _ k11 i, fun i => f.2.1 _ k9 i⟩
  rw [tI_uI, if_neg (by decide)]
  exact f.1 _ _ h11
theorem GD.add {t u : TS} {x : TX} (g : GD t) (h : (tD u).map Dhd = (tD t).map Dhd ++ [Dhd x]) (gx : GVx x) : GD u := by
  have hl : (tD u).length = (tD t).length + 1 := by
    have := congrArg List.length h
    simpa using this
  intro j hj
  have hg : ∀ k, Dhd (tx u k) = (((tD u).map Dhd)[k]?).getD (Dhd (0, 0, [], [], [])) := by
    intro k
    rw [List.getElem?_map]
    unfold tx
    rw [List.getD_eq_getElem?_getD]
    cases (tD u)[k]? <;> rfl
  by_cases e : j < (tD t).length
  · refine (g j e).hd ?_
    rw [hg, h, List.getElem?_append_left (by simpa using e), List.getElem?_map, tx_get e]
    rfl
  · have ej : j = ((tD t).map Dhd).length := by rw [List.length_map]; omega
    refine gx.hd ?_
    rw [hg, h, ej, List.getElem?_append_right (Nat.le_refl _)]
    simp
theorem tx_new {t u : TS} {x : TX} (h : (tD u).map Dhd = (tD t).map Dhd ++ [Dhd x]) : Dhd (tx u (tD t).length) = Dhd x := by
  unfold tx
  rw [List.getD_eq_getElem?_getD]
  have e : ((tD u).map Dhd)[(tD t).length]? = some (Dhd x) := by
    rw [h, List.getElem?_append_right (by simp)]
    simp
  rw [List.getElem?_map] at e
  revert e
  cases (tD u)[(tD t).length]? with
  | none => intro e; cases e
  | some y => intro e; exact Option.some.inj e
theorem xc_n {S : List (Nat × Nat)} {t u v : TS} {z : Int} (h : RTp t none u) (f : FrD S t u) (e : v = uI u 37 1 0) (h11 : (1, 11) ∉ S) (h10 : (10, 101) ∉ S) (k11 : (11, 100) ∉ S) (k9 : (9, 100) ∉ S) (hz : z = -100 - tI v 39 0) : XCp t z v := by
  obtain ⟨a, b⟩ := rt_xf h
  refine Or.inl ⟨tI u 39 0, a, ?_, sm1_of f e h11 h10 k11 k9, by rw [e]; exact b⟩
  rw [hz, e, tI_uI, if_neg (by decide)]
theorem xc_f {S : List (Nat × Nat)} {t u v : TS} {z : Int} {r : Nat} (ok : OK t) (h : RTp t (some r) u) (f : FrD S t u) (e : v = uI u 37 1 0) (h11 : (1, 11) ∉ S) (h10 : (10, 101) ∉ S) (k11 : (11, 100) ∉ S) (k9 : (9, 100) ∉ S) (hc : 14 ≤ tI v 1 11) (hz : z = -1000000003) : XCp t z v := by
  obtain ⟨-, x, a, b⟩ := rt_xs ok h
  have s := sm1_of f e h11 h10 k11 k9
  exact Or.inr ⟨x, a, by rw [e]; exact b, Or.inl ⟨by rw [← s.1]; exact hc, hz, s⟩⟩
theorem xc_s {S S2 : List (Nat × Nat)} {t u v w : TS} {z : Int} {j : Nat} (ok : OK t) (h : RTp t (some (92 + 4 * j)) u) (f : FrD S t u) (e : v = uI u 37 1 0) (h11 : (1, 11) ∉ S) (h10 : (10, 101) ∉ S) (k11 : (11, 100) ∉ S) (k9 : (9, 100) ∉ S) (n10 : (1, 10) ∉ S) (hc : tI v 1 11 < 14) (hz : z = tI v 1 11) (a : ATp v w 1 j) (g : Fr S2 v w) : XCp t z w := by
  obtain ⟨hr, x, b, c⟩ := rt_xs ok h
  have ej : j = (tD t).length := by omega
  subst ej
  have s := sm1_of f e h11 h10 k11 k9
  obtain ⟨s1, s2, s3, s4⟩ := s
  obtain ⟨a1, a2, a3, a4⟩ := a
  have cv : (tD v).map Dhd = (tD t).map Dhd ++ [Dhd x] := by rw [e]; exact c
  have ex : (tx v (tD t).length).1 = x.1 := (Dhd_1 (tx_new cv)).1
  have e10 : tI v 1 10 = tI t 1 10 := by rw [e, tI_uI, if_neg (by decide)]; exact f.1 _ _ n10
  rw [ex] at a3 a4
  refine Or.inr ⟨x, b, g.2.2.2.2.trans cv, Or.inr ⟨by rw [← s1]; exact hc, by rw [hz, s1], by rw [a1, s1], fun i => ?_, fun i => ?_, ?_⟩⟩
  · rw [← s1, ← s2]; exact a2 i
  · rw [← s1, ← s3]; exact a3 i
  · rcases a4 with q | q
    · exact Or.inl ⟨q.1, fun i => (q.2 i).trans (s4 i)⟩
    · exact Or.inr ⟨q.1, by rw [← e10]; exact q.2⟩
theorem gd_v {t u v : TS} {r : Nat} (ok : OK t) (g : GD t) (h : RTp t (some r) u) (e : v = uI u 37 1 0) : GD v := by
  obtain ⟨-, x, b, c⟩ := rt_xs ok h
  obtain ⟨n, f, g2, -, -, -, -, -, -, -, -, gx⟩ := b
  exact GD.add g (by rw [e]; exact c) gx
end
section
set_option maxRecDepth 100000 in
set_option maxHeartbeats 4000000 in
theorem e_X1_readText {d : Nat} {t : TS}  (ok : OK t) (q0 : (tD t).length ≤ 90000) : CR (EX FU (d + 85)) 5 [.ref 39] (mk t) (fun z t' => OK t' ∧ FrD [(39, 0), (39, 4), (39, 5), (39, 7), (39, 8), (39, 9), (39, 10), (40, 100), (41, 100), (39, 6)] t t' ∧ (tD t').length ≤ (tD t).length + 1 ∧ (∀ r, z = some r → ∃ j, j < (tD t').length ∧ r = 92 + 4 * j) ∧ (RTp t z t')) := by
  refine CR_ent (d := d + 84) (Bk := bX1_readText) (nL := 2) rfl rfl rfl (Nat.le_of_ble_eq_true rfl) ?_
  show Rn _ 1000000 0 [some (.ref 39), none] [] _ _
  have fr : Fr [(39, 0), (39, 4), (39, 5), (39, 7), (39, 8), (39, 9), (39, 10), (40, 100), (41, 100), (39, 6)] t t := Fr.rf _ _
  have r37 := ok.f fe_37_1
  refine w_step rfl ?_
  refine w_aload rfl ?_
  refine w_callV0V (oj_39 _).choose_spec rfl (e_X1_begin ok) ?_
  rintro t1 ⟨ok1, fq1, hp1_0, hp1_1, hp1_2, hp1_3, hp1_4, hp1_5, hp1_6, hp1_7⟩
  have fr1 := fr.then fq1 (by simp)
  have kf1_37_1 : tI t1 37 1 = tI t 37 1 := fq1.1 37 1 (by simp)
  have r8 := ok1.f fe_39_8
  have b0 : cuR t1 = b0T t := hp1_7
  have b8 : tI t1 39 8 = (b0T t).1 := by rw [← b0]; rfl
  refine w_aload rfl ?_
  refine w_callV0I (oj_39 _).choose_spec rfl (e_X1_keyAtHand ok1 (by omega)) ?_
  rintro z2 t2 ⟨rfl, hp2_0, hp2_1, hp2_2, hp2_3⟩
  have ky : KYp (tA t 38) (b0T t) z2 := by
    have h9 := hp2_3
    rw [show tA t1 38 = tA t 38 from funext (fr1.2.1 38 (by simp)), b0] at h9
    exact h9
  refine w_istore (lv' := [some (.ref 39), some (.int (jI z2))]) rfl ?_
  refine w_iload rfl ?_
  refine w_push kc_m1 ?_
  refine w_cne (by omega) (fun h3 => ?_) (fun h3 => ?_)
  · skip
    refine w_step rfl ?_
    refine w_aload rfl ?_
    refine w_iload rfl ?_
    refine w_ine (by omega) (fun h4 => ?_) (fun h4 => ?_)
    · skip
      refine w_step rfl ?_
      refine w_iload rfl ?_
      refine w_push kc_1 ?_
      refine w_cne (by omega) (fun h5 => ?_) (fun h5 => ?_)
      · skip
        refine w_step rfl ?_
        refine w_pushV ?_
        refine w_goto ?_
        refine w_step rfl ?_
        refine w_putN ok1 (fun t6 ht6 ok6 => ?_)
        have kf6_39_0 : tI t6 39 0 = tI t1 39 0 := by rw [ht6]; rfl
        have kf6_39_4 : tI t6 39 4 = tI t1 39 4 := by rw [ht6]; rfl
        have kf6_39_5 : tI t6 39 5 = tI t1 39 5 := by rw [ht6]; rfl
        have kf6_39_7 : tI t6 39 7 = tI t1 39 7 := by rw [ht6]; rfl
        have kf6_39_8 : tI t6 39 8 = tI t1 39 8 := by rw [ht6]; rfl
        have kf6_39_9 : tI t6 39 9 = tI t1 39 9 := by rw [ht6]; rfl
        have kf6_37_1 : tI t6 37 1 = tI t1 37 1 := by rw [ht6]; rfl
        have fr6 := fr1.uN ht6 (by simp)
        have nm : tN t6 = 1000006 ∨ tN t6 = 1000007 ∨ tN t6 = 1000008 := by
          rw [ht6]
          first | exact Or.inl rfl | exact Or.inr (Or.inl rfl) | exact Or.inr (Or.inr rfl)
        have kq : kyN t6 = z2 := by
          unfold kyN
          first
            | (rw [show tN t6 = 1000006 from (by rw [ht6]; rfl)]; omega)
            | (rw [show tN t6 = 1000007 from (by rw [ht6]; rfl)]; omega)
            | (rw [show tN t6 = 1000008 from (by rw [ht6]; rfl)]; omega)
        have b1 : cuR t6 = b0T t := by
          rw [← b0, ht6]
          rfl
        have g8 : tA t6 38 = tA t 38 := funext (fr6.2.1 38 (by simp))
        refine w_aload rfl ?_
        refine w_callV0V (oj_39 _).choose_spec rfl (e_X1_step ok6 (by omega)) ?_
        rintro t7 ⟨ok7, fq7, hp7_0, hp7_1, hp7_2, hp7_3, hp7_4, hp7_5⟩
        have fr7 := fr6.then fq7 (by simp)
        have kf7_39_0 : tI t7 39 0 = tI t6 39 0 := fq7.1 39 0 (by simp)
        have kf7_39_4 : tI t7 39 4 = tI t6 39 4 := fq7.1 39 4 (by simp)
        have kf7_39_5 : tI t7 39 5 = tI t6 39 5 := fq7.1 39 5 (by simp)
        have kf7_37_1 : tI t7 37 1 = tI t6 37 1 := fq7.1 37 1 (by simp)
        have lt := hp7_4
        have nm : tN t7 = 1000006 ∨ tN t7 = 1000007 ∨ tN t7 = 1000008 := by rw [fq7.2.2.2.1 (by simp)]; exact nm
        have r2 : Rd t7 = (b1T t, [], 0, -1) := rt_1 (rd_st fq7 hp7_5) g8 (by omega) b1 (by omega) (by omega) (by omega)
        have kq : kyN t7 = z2 := by
          unfold kyN at kq ⊢
          rw [fq7.2.2.2.1 (by simp)]
          exact kq
        have g8 : tA t7 38 = tA t 38 := funext (fr7.2.1 38 (by simp))
        refine w_aload rfl ?_
        refine w_push kc_0 ?_
        refine w_push kc_0 ?_
        refine w_push kc_0 ?_
        refine w_callV3V (oj_39 _).choose_spec rfl (e_X1_readLevel0 ok7 (by omega) (by omega) (by omega) (by omega) (by omega) lt nm rfl rfl rfl) ?_
        rintro t8 ⟨ok8, fq8, hp8_0, hp8_1, hp8_2, hp8_3, hp8_4, hp8_5, hp8_6, hp8_7⟩
        have fr8 := fr7.then fq8 (by simp)
        have kf8_37_1 : tI t8 37 1 = tI t7 37 1 := fq8.1 37 1 (by simp)
        have y1 : Rd t8 = yT t z2 := rt_2 hp8_7 r2 g8 (by omega) kq
        refine w_aload rfl ?_
        refine w_getI (g_39_0 _) fe_39_0 ok8 (fun z9 hz9 hl9 hh9 => ?_)
        refine w_push kc_m1 ?_
        refine w_cne (by omega) (fun h10 => ?_) (fun h10 => ?_)
        · skip
          refine w_step rfl ?_
          refine w_aload rfl ?_
          refine w_getI (g_39_0 _) fe_39_0 ok8 (fun z11 hz11 hl11 hh11 => ?_)
          refine w_push kc_m1 ?_
          refine w_ceq (by omega) (fun h12 => ?_) (fun h12 => ?_)
          · skip
            refine w_step rfl ?_
            have hl6 := fr8.len
            exact rd_blk6x (d := d + 83) ok8 (by omega) (by omega) (by omega) (fun x hx he => ⟨ok8.app hx, fr8.toD.uD _, by show (tD t8 ++ [x]).length ≤ _; rw [List.length_append]; simp only [List.length_singleton]; omega, fun r h => ⟨(tD t8).length, by show _ < (tD t8 ++ [x]).length; rw [List.length_append]; simp, (Option.some.inj h).symm⟩, by first | exact rt_s ok8 ky (by omega) y1 (by omega) (by omega) (by omega) fr8.2.2.2.2 hl6 he | (exfalso; omega)⟩)
          refine w_pushV ?_
          refine w_retN rfl ?_
          exact ⟨ok8, fr8.toD, (by have hl := fr8.len; omega), (fun r h => by cases h), (by first | exact rt_n ky (by omega) (by omega) fr8.2.2.2.2 | exact rt_f ky (by omega) y1 (by omega) fr8.2.2.2.2 | omega)⟩
        refine w_aload rfl ?_
        refine w_getI (g_39_7 _) fe_39_7 ok8 (fun z13 hz13 hl13 hh13 => ?_)
        refine w_ieq (by omega) (fun h14 => ?_) (fun h14 => ?_)
        · skip
          refine w_step rfl ?_
          refine w_aload rfl ?_
          refine w_getI (g_39_0 _) fe_39_0 ok8 (fun z15 hz15 hl15 hh15 => ?_)
          refine w_push kc_m1 ?_
          refine w_ceq (by omega) (fun h16 => ?_) (fun h16 => ?_)
          · skip
            refine w_step rfl ?_
            have hl6 := fr8.len
            exact rd_blk6x (d := d + 83) ok8 (by omega) (by omega) (by omega) (fun x hx he => ⟨ok8.app hx, fr8.toD.uD _, by show (tD t8 ++ [x]).length ≤ _; rw [List.length_append]; simp only [List.length_singleton]; omega, fun r h => ⟨(tD t8).length, by show _ < (tD t8 ++ [x]).length; rw [List.length_append]; simp, (Option.some.inj h).symm⟩, by first | exact rt_s ok8 ky (by omega) y1 (by omega) (by omega) (by omega) fr8.2.2.2.2 hl6 he | (exfalso; omega)⟩)
          refine w_pushV ?_
          refine w_retN rfl ?_
          exact ⟨ok8, fr8.toD, (by have hl := fr8.len; omega), (fun r h => by cases h), (by first | exact rt_n ky (by omega) (by omega) fr8.2.2.2.2 | exact rt_f ky (by omega) y1 (by omega) fr8.2.2.2.2 | omega)⟩
        refine w_aload rfl ?_
        refine w_aload rfl ?_
        refine w_getI (g_39_8 _) fe_39_8 ok8 (fun z17 hz17 hl17 hh17 => ?_)
        refine w_putI (p_39_0 _) fe_39_0 ok8 (by omega) (fun t18 ht18 ok18 => ?_)
        have kf18_39_0 : tI t18 39 0 = z17 := by rw [ht18, tI_uI, if_pos ⟨rfl, rfl⟩]
        have kf18_39_4 : tI t18 39 4 = tI t8 39 4 := by rw [ht18, tI_uI, if_neg (by decide)]
        have kf18_39_5 : tI t18 39 5 = tI t8 39 5 := by rw [ht18, tI_uI, if_neg (by decide)]
        have kf18_39_7 : tI t18 39 7 = tI t8 39 7 := by rw [ht18, tI_uI, if_neg (by decide)]
        have kf18_39_8 : tI t18 39 8 = tI t8 39 8 := by rw [ht18, tI_uI, if_neg (by decide)]
        have kf18_39_9 : tI t18 39 9 = tI t8 39 9 := by rw [ht18, tI_uI, if_neg (by decide)]
        have kf18_37_1 : tI t18 37 1 = tI t8 37 1 := by rw [ht18, tI_uI, if_neg (by decide)]
        have fr18 := fr8.uI ht18 (by simp)
        refine w_goto ?_
        refine w_step rfl ?_
        refine w_aload rfl ?_
        refine w_getI (g_39_0 _) fe_39_0 ok18 (fun z19 hz19 hl19 hh19 => ?_)
        refine w_push kc_m1 ?_
        refine w_ceq (by omega) (fun h20 => ?_) (fun h20 => ?_)
        · skip
          refine w_step rfl ?_
          have hl6 := fr18.len
          exact rd_blk6x (d := d + 83) ok18 (by omega) (by omega) (by omega) (fun x hx he => ⟨ok18.app hx, fr18.toD.uD _, by show (tD t18 ++ [x]).length ≤ _; rw [List.length_append]; simp only [List.length_singleton]; omega, fun r h => ⟨(tD t18).length, by show _ < (tD t18 ++ [x]).length; rw [List.length_append]; simp, (Option.some.inj h).symm⟩, by first | exact rt_s ok18 ky (by omega) y1 (by omega) (by omega) (by omega) fr18.2.2.2.2 hl6 he | (exfalso; omega)⟩)
        refine w_pushV ?_
        refine w_retN rfl ?_
        exact ⟨ok18, fr18.toD, (by have hl := fr18.len; omega), (fun r h => by cases h), (by first | exact rt_n ky (by omega) (by omega) fr18.2.2.2.2 | exact rt_f ky (by omega) y1 (by omega) fr18.2.2.2.2 | omega)⟩
      refine w_pushV ?_
      refine w_goto ?_
      refine w_step rfl ?_
      refine w_putN ok1 (fun t21 ht21 ok21 => ?_)
      have kf21_39_0 : tI t21 39 0 = tI t1 39 0 := by rw [ht21]; rfl
      have kf21_39_4 : tI t21 39 4 = tI t1 39 4 := by rw [ht21]; rfl
      have kf21_39_5 : tI t21 39 5 = tI t1 39 5 := by rw [ht21]; rfl
      have kf21_39_7 : tI t21 39 7 = tI t1 39 7 := by rw [ht21]; rfl
      have kf21_39_8 : tI t21 39 8 = tI t1 39 8 := by rw [ht21]; rfl
      have kf21_39_9 : tI t21 39 9 = tI t1 39 9 := by rw [ht21]; rfl
      have kf21_37_1 : tI t21 37 1 = tI t1 37 1 := by rw [ht21]; rfl
      have fr21 := fr1.uN ht21 (by simp)
      have nm : tN t21 = 1000006 ∨ tN t21 = 1000007 ∨ tN t21 = 1000008 := by
        rw [ht21]
        first | exact Or.inl rfl | exact Or.inr (Or.inl rfl) | exact Or.inr (Or.inr rfl)
      have kq : kyN t21 = z2 := by
        unfold kyN
        first
          | (rw [show tN t21 = 1000006 from (by rw [ht21]; rfl)]; omega)
          | (rw [show tN t21 = 1000007 from (by rw [ht21]; rfl)]; omega)
          | (rw [show tN t21 = 1000008 from (by rw [ht21]; rfl)]; omega)
      have b1 : cuR t21 = b0T t := by
        rw [← b0, ht21]
        rfl
      have g8 : tA t21 38 = tA t 38 := funext (fr21.2.1 38 (by simp))
      refine w_aload rfl ?_
      refine w_callV0V (oj_39 _).choose_spec rfl (e_X1_step ok21 (by omega)) ?_
      rintro t22 ⟨ok22, fq22, hp22_0, hp22_1, hp22_2, hp22_3, hp22_4, hp22_5⟩
      have fr22 := fr21.then fq22 (by simp)
      have kf22_39_0 : tI t22 39 0 = tI t21 39 0 := fq22.1 39 0 (by simp)
      have kf22_39_4 : tI t22 39 4 = tI t21 39 4 := fq22.1 39 4 (by simp)
      have kf22_39_5 : tI t22 39 5 = tI t21 39 5 := fq22.1 39 5 (by simp)
      have kf22_37_1 : tI t22 37 1 = tI t21 37 1 := fq22.1 37 1 (by simp)
      have lt := hp22_4
      have nm : tN t22 = 1000006 ∨ tN t22 = 1000007 ∨ tN t22 = 1000008 := by rw [fq22.2.2.2.1 (by simp)]; exact nm
      have r2 : Rd t22 = (b1T t, [], 0, -1) := rt_1 (rd_st fq22 hp22_5) g8 (by omega) b1 (by omega) (by omega) (by omega)
      have kq : kyN t22 = z2 := by
        unfold kyN at kq ⊢
        rw [fq22.2.2.2.1 (by simp)]
        exact kq
      have g8 : tA t22 38 = tA t 38 := funext (fr22.2.1 38 (by simp))
      refine w_aload rfl ?_
      refine w_push kc_0 ?_
      refine w_push kc_0 ?_
      refine w_push kc_0 ?_
      refine w_callV3V (oj_39 _).choose_spec rfl (e_X1_readLevel0 ok22 (by omega) (by omega) (by omega) (by omega) (by omega) lt nm rfl rfl rfl) ?_
      rintro t23 ⟨ok23, fq23, hp23_0, hp23_1, hp23_2, hp23_3, hp23_4, hp23_5, hp23_6, hp23_7⟩
      have fr23 := fr22.then fq23 (by simp)
      have kf23_37_1 : tI t23 37 1 = tI t22 37 1 := fq23.1 37 1 (by simp)
      have y1 : Rd t23 = yT t z2 := rt_2 hp23_7 r2 g8 (by omega) kq
      refine w_aload rfl ?_
      refine w_getI (g_39_0 _) fe_39_0 ok23 (fun z24 hz24 hl24 hh24 => ?_)
      refine w_push kc_m1 ?_
      refine w_cne (by omega) (fun h25 => ?_) (fun h25 => ?_)
      · skip
        refine w_step rfl ?_
        refine w_aload rfl ?_
        refine w_getI (g_39_0 _) fe_39_0 ok23 (fun z26 hz26 hl26 hh26 => ?_)
        refine w_push kc_m1 ?_
        refine w_ceq (by omega) (fun h27 => ?_) (fun h27 => ?_)
        · skip
          refine w_step rfl ?_
          have hl6 := fr23.len
          exact rd_blk6x (d := d + 83) ok23 (by omega) (by omega) (by omega) (fun x hx he => ⟨ok23.app hx, fr23.toD.uD _, by show (tD t23 ++ [x]).length ≤ _; rw [List.length_append]; simp only [List.length_singleton]; omega, fun r h => ⟨(tD t23).length, by show _ < (tD t23 ++ [x]).length; rw [List.length_append]; simp, (Option.some.inj h).symm⟩, by first | exact rt_s ok23 ky (by omega) y1 (by omega) (by omega) (by omega) fr23.2.2.2.2 hl6 he | (exfalso; omega)⟩)
        refine w_pushV ?_
        refine w_retN rfl ?_
        exact ⟨ok23, fr23.toD, (by have hl := fr23.len; omega), (fun r h => by cases h), (by first | exact rt_n ky (by omega) (by omega) fr23.2.2.2.2 | exact rt_f ky (by omega) y1 (by omega) fr23.2.2.2.2 | omega)⟩
      refine w_aload rfl ?_
      refine w_getI (g_39_7 _) fe_39_7 ok23 (fun z28 hz28 hl28 hh28 => ?_)
      refine w_ieq (by omega) (fun h29 => ?_) (fun h29 => ?_)
      · skip
        refine w_step rfl ?_
        refine w_aload rfl ?_
        refine w_getI (g_39_0 _) fe_39_0 ok23 (fun z30 hz30 hl30 hh30 => ?_)
        refine w_push kc_m1 ?_
        refine w_ceq (by omega) (fun h31 => ?_) (fun h31 => ?_)
        · skip
          refine w_step rfl ?_
          have hl6 := fr23.len
          exact rd_blk6x (d := d + 83) ok23 (by omega) (by omega) (by omega) (fun x hx he => ⟨ok23.app hx, fr23.toD.uD _, by show (tD t23 ++ [x]).length ≤ _; rw [List.length_append]; simp only [List.length_singleton]; omega, fun r h => ⟨(tD t23).length, by show _ < (tD t23 ++ [x]).length; rw [List.length_append]; simp, (Option.some.inj h).symm⟩, by first | exact rt_s ok23 ky (by omega) y1 (by omega) (by omega) (by omega) fr23.2.2.2.2 hl6 he | (exfalso; omega)⟩)
        refine w_pushV ?_
        refine w_retN rfl ?_
        exact ⟨ok23, fr23.toD, (by have hl := fr23.len; omega), (fun r h => by cases h), (by first | exact rt_n ky (by omega) (by omega) fr23.2.2.2.2 | exact rt_f ky (by omega) y1 (by omega) fr23.2.2.2.2 | omega)⟩
      refine w_aload rfl ?_
      refine w_aload rfl ?_
      refine w_getI (g_39_8 _) fe_39_8 ok23 (fun z32 hz32 hl32 hh32 => ?_)
      refine w_putI (p_39_0 _) fe_39_0 ok23 (by omega) (fun t33 ht33 ok33 => ?_)
      have kf33_39_0 : tI t33 39 0 = z32 := by rw [ht33, tI_uI, if_pos ⟨rfl, rfl⟩]
      have kf33_39_4 : tI t33 39 4 = tI t23 39 4 := by rw [ht33, tI_uI, if_neg (by decide)]
      have kf33_39_5 : tI t33 39 5 = tI t23 39 5 := by rw [ht33, tI_uI, if_neg (by decide)]
      have kf33_39_7 : tI t33 39 7 = tI t23 39 7 := by rw [ht33, tI_uI, if_neg (by decide)]
      have kf33_39_8 : tI t33 39 8 = tI t23 39 8 := by rw [ht33, tI_uI, if_neg (by decide)]
      have kf33_39_9 : tI t33 39 9 = tI t23 39 9 := by rw [ht33, tI_uI, if_neg (by decide)]
      have kf33_37_1 : tI t33 37 1 = tI t23 37 1 := by rw [ht33, tI_uI, if_neg (by decide)]
      have fr33 := fr23.uI ht33 (by simp)
      refine w_goto ?_
      refine w_step rfl ?_
      refine w_aload rfl ?_
      refine w_getI (g_39_0 _) fe_39_0 ok33 (fun z34 hz34 hl34 hh34 => ?_)
      refine w_push kc_m1 ?_
      refine w_ceq (by omega) (fun h35 => ?_) (fun h35 => ?_)
      · skip
        refine w_step rfl ?_
        have hl6 := fr33.len
        exact rd_blk6x (d := d + 83) ok33 (by omega) (by omega) (by omega) (fun x hx he => ⟨ok33.app hx, fr33.toD.uD _, by show (tD t33 ++ [x]).length ≤ _; rw [List.length_append]; simp only [List.length_singleton]; omega, fun r h => ⟨(tD t33).length, by show _ < (tD t33 ++ [x]).length; rw [List.length_append]; simp, (Option.some.inj h).symm⟩, by first | exact rt_s ok33 ky (by omega) y1 (by omega) (by omega) (by omega) fr33.2.2.2.2 hl6 he | (exfalso; omega)⟩)
      refine w_pushV ?_
      refine w_retN rfl ?_
      exact ⟨ok33, fr33.toD, (by have hl := fr33.len; omega), (fun r h => by cases h), (by first | exact rt_n ky (by omega) (by omega) fr33.2.2.2.2 | exact rt_f ky (by omega) y1 (by omega) fr33.2.2.2.2 | omega)⟩
    refine w_pushV ?_
    refine w_goto ?_
    refine w_step rfl ?_
    refine w_putN ok1 (fun t36 ht36 ok36 => ?_)
    have kf36_39_0 : tI t36 39 0 = tI t1 39 0 := by rw [ht36]; rfl
    have kf36_39_4 : tI t36 39 4 = tI t1 39 4 := by rw [ht36]; rfl
    have kf36_39_5 : tI t36 39 5 = tI t1 39 5 := by rw [ht36]; rfl
    have kf36_39_7 : tI t36 39 7 = tI t1 39 7 := by rw [ht36]; rfl
    have kf36_39_8 : tI t36 39 8 = tI t1 39 8 := by rw [ht36]; rfl
    have kf36_39_9 : tI t36 39 9 = tI t1 39 9 := by rw [ht36]; rfl
    have kf36_37_1 : tI t36 37 1 = tI t1 37 1 := by rw [ht36]; rfl
    have fr36 := fr1.uN ht36 (by simp)
    have nm : tN t36 = 1000006 ∨ tN t36 = 1000007 ∨ tN t36 = 1000008 := by
      rw [ht36]
      first | exact Or.inl rfl | exact Or.inr (Or.inl rfl) | exact Or.inr (Or.inr rfl)
    have kq : kyN t36 = z2 := by
      unfold kyN
      first
        | (rw [show tN t36 = 1000006 from (by rw [ht36]; rfl)]; omega)
        | (rw [show tN t36 = 1000007 from (by rw [ht36]; rfl)]; omega)
        | (rw [show tN t36 = 1000008 from (by rw [ht36]; rfl)]; omega)
    have b1 : cuR t36 = b0T t := by
      rw [← b0, ht36]
      rfl
    have g8 : tA t36 38 = tA t 38 := funext (fr36.2.1 38 (by simp))
    refine w_aload rfl ?_
    refine w_callV0V (oj_39 _).choose_spec rfl (e_X1_step ok36 (by omega)) ?_
    rintro t37 ⟨ok37, fq37, hp37_0, hp37_1, hp37_2, hp37_3, hp37_4, hp37_5⟩
    have fr37 := fr36.then fq37 (by simp)
    have kf37_39_0 : tI t37 39 0 = tI t36 39 0 := fq37.1 39 0 (by simp)
    have kf37_39_4 : tI t37 39 4 = tI t36 39 4 := fq37.1 39 4 (by simp)
    have kf37_39_5 : tI t37 39 5 = tI t36 39 5 := fq37.1 39 5 (by simp)
    have kf37_37_1 : tI t37 37 1 = tI t36 37 1 := fq37.1 37 1 (by simp)
    have lt := hp37_4
    have nm : tN t37 = 1000006 ∨ tN t37 = 1000007 ∨ tN t37 = 1000008 := by rw [fq37.2.2.2.1 (by simp)]; exact nm
    have r2 : Rd t37 = (b1T t, [], 0, -1) := rt_1 (rd_st fq37 hp37_5) g8 (by omega) b1 (by omega) (by omega) (by omega)
    have kq : kyN t37 = z2 := by
      unfold kyN at kq ⊢
      rw [fq37.2.2.2.1 (by simp)]
      exact kq
    have g8 : tA t37 38 = tA t 38 := funext (fr37.2.1 38 (by simp))
    refine w_aload rfl ?_
    refine w_push kc_0 ?_
    refine w_push kc_0 ?_
    refine w_push kc_0 ?_
    refine w_callV3V (oj_39 _).choose_spec rfl (e_X1_readLevel0 ok37 (by omega) (by omega) (by omega) (by omega) (by omega) lt nm rfl rfl rfl) ?_
    rintro t38 ⟨ok38, fq38, hp38_0, hp38_1, hp38_2, hp38_3, hp38_4, hp38_5, hp38_6, hp38_7⟩
    have fr38 := fr37.then fq38 (by simp)
    have kf38_37_1 : tI t38 37 1 = tI t37 37 1 := fq38.1 37 1 (by simp)
    have y1 : Rd t38 = yT t z2 := rt_2 hp38_7 r2 g8 (by omega) kq
    refine w_aload rfl ?_
    refine w_getI (g_39_0 _) fe_39_0 ok38 (fun z39 hz39 hl39 hh39 => ?_)
    refine w_push kc_m1 ?_
    refine w_cne (by omega) (fun h40 => ?_) (fun h40 => ?_)
    · skip
      refine w_step rfl ?_
      refine w_aload rfl ?_
      refine w_getI (g_39_0 _) fe_39_0 ok38 (fun z41 hz41 hl41 hh41 => ?_)
      refine w_push kc_m1 ?_
      refine w_ceq (by omega) (fun h42 => ?_) (fun h42 => ?_)
      · skip
        refine w_step rfl ?_
        have hl6 := fr38.len
        exact rd_blk6x (d := d + 83) ok38 (by omega) (by omega) (by omega) (fun x hx he => ⟨ok38.app hx, fr38.toD.uD _, by show (tD t38 ++ [x]).length ≤ _; rw [List.length_append]; simp only [List.length_singleton]; omega, fun r h => ⟨(tD t38).length, by show _ < (tD t38 ++ [x]).length; rw [List.length_append]; simp, (Option.some.inj h).symm⟩, by first | exact rt_s ok38 ky (by omega) y1 (by omega) (by omega) (by omega) fr38.2.2.2.2 hl6 he | (exfalso; omega)⟩)
      refine w_pushV ?_
      refine w_retN rfl ?_
      exact ⟨ok38, fr38.toD, (by have hl := fr38.len; omega), (fun r h => by cases h), (by first | exact rt_n ky (by omega) (by omega) fr38.2.2.2.2 | exact rt_f ky (by omega) y1 (by omega) fr38.2.2.2.2 | omega)⟩
    refine w_aload rfl ?_
    refine w_getI (g_39_7 _) fe_39_7 ok38 (fun z43 hz43 hl43 hh43 => ?_)
    refine w_ieq (by omega) (fun h44 => ?_) (fun h44 => ?_)
    · skip
      refine w_step rfl ?_
      refine w_aload rfl ?_
      refine w_getI (g_39_0 _) fe_39_0 ok38 (fun z45 hz45 hl45 hh45 => ?_)
      refine w_push kc_m1 ?_
      refine w_ceq (by omega) (fun h46 => ?_) (fun h46 => ?_)
      · skip
        refine w_step rfl ?_
        have hl6 := fr38.len
        exact rd_blk6x (d := d + 83) ok38 (by omega) (by omega) (by omega) (fun x hx he => ⟨ok38.app hx, fr38.toD.uD _, by show (tD t38 ++ [x]).length ≤ _; rw [List.length_append]; simp only [List.length_singleton]; omega, fun r h => ⟨(tD t38).length, by show _ < (tD t38 ++ [x]).length; rw [List.length_append]; simp, (Option.some.inj h).symm⟩, by first | exact rt_s ok38 ky (by omega) y1 (by omega) (by omega) (by omega) fr38.2.2.2.2 hl6 he | (exfalso; omega)⟩)
      refine w_pushV ?_
      refine w_retN rfl ?_
      exact ⟨ok38, fr38.toD, (by have hl := fr38.len; omega), (fun r h => by cases h), (by first | exact rt_n ky (by omega) (by omega) fr38.2.2.2.2 | exact rt_f ky (by omega) y1 (by omega) fr38.2.2.2.2 | omega)⟩
    refine w_aload rfl ?_
    refine w_aload rfl ?_
    refine w_getI (g_39_8 _) fe_39_8 ok38 (fun z47 hz47 hl47 hh47 => ?_)
    refine w_putI (p_39_0 _) fe_39_0 ok38 (by omega) (fun t48 ht48 ok48 => ?_)
    have kf48_39_0 : tI t48 39 0 = z47 := by rw [ht48, tI_uI, if_pos ⟨rfl, rfl⟩]
    have kf48_39_4 : tI t48 39 4 = tI t38 39 4 := by rw [ht48, tI_uI, if_neg (by decide)]
    have kf48_39_5 : tI t48 39 5 = tI t38 39 5 := by rw [ht48, tI_uI, if_neg (by decide)]
    have kf48_39_7 : tI t48 39 7 = tI t38 39 7 := by rw [ht48, tI_uI, if_neg (by decide)]
    have kf48_39_8 : tI t48 39 8 = tI t38 39 8 := by rw [ht48, tI_uI, if_neg (by decide)]
    have kf48_39_9 : tI t48 39 9 = tI t38 39 9 := by rw [ht48, tI_uI, if_neg (by decide)]
    have kf48_37_1 : tI t48 37 1 = tI t38 37 1 := by rw [ht48, tI_uI, if_neg (by decide)]
    have fr48 := fr38.uI ht48 (by simp)
    refine w_goto ?_
    refine w_step rfl ?_
    refine w_aload rfl ?_
    refine w_getI (g_39_0 _) fe_39_0 ok48 (fun z49 hz49 hl49 hh49 => ?_)
    refine w_push kc_m1 ?_
    refine w_ceq (by omega) (fun h50 => ?_) (fun h50 => ?_)
    · skip
      refine w_step rfl ?_
      have hl6 := fr48.len
      exact rd_blk6x (d := d + 83) ok48 (by omega) (by omega) (by omega) (fun x hx he => ⟨ok48.app hx, fr48.toD.uD _, by show (tD t48 ++ [x]).length ≤ _; rw [List.length_append]; simp only [List.length_singleton]; omega, fun r h => ⟨(tD t48).length, by show _ < (tD t48 ++ [x]).length; rw [List.length_append]; simp, (Option.some.inj h).symm⟩, by first | exact rt_s ok48 ky (by omega) y1 (by omega) (by omega) (by omega) fr48.2.2.2.2 hl6 he | (exfalso; omega)⟩)
    refine w_pushV ?_
    refine w_retN rfl ?_
    exact ⟨ok48, fr48.toD, (by have hl := fr48.len; omega), (fun r h => by cases h), (by first | exact rt_n ky (by omega) (by omega) fr48.2.2.2.2 | exact rt_f ky (by omega) y1 (by omega) fr48.2.2.2.2 | omega)⟩
  refine w_aload rfl ?_
  refine w_aload rfl ?_
  refine w_getI (g_39_8 _) fe_39_8 ok1 (fun z51 hz51 hl51 hh51 => ?_)
  refine w_putI (p_39_0 _) fe_39_0 ok1 (by omega) (fun t52 ht52 ok52 => ?_)
  have kf52_39_0 : tI t52 39 0 = z51 := by rw [ht52, tI_uI, if_pos ⟨rfl, rfl⟩]
  have kf52_39_4 : tI t52 39 4 = tI t1 39 4 := by rw [ht52, tI_uI, if_neg (by decide)]
  have kf52_39_5 : tI t52 39 5 = tI t1 39 5 := by rw [ht52, tI_uI, if_neg (by decide)]
  have kf52_39_7 : tI t52 39 7 = tI t1 39 7 := by rw [ht52, tI_uI, if_neg (by decide)]
  have kf52_39_8 : tI t52 39 8 = tI t1 39 8 := by rw [ht52, tI_uI, if_neg (by decide)]
  have kf52_39_9 : tI t52 39 9 = tI t1 39 9 := by rw [ht52, tI_uI, if_neg (by decide)]
  have kf52_37_1 : tI t52 37 1 = tI t1 37 1 := by rw [ht52, tI_uI, if_neg (by decide)]
  have fr52 := fr1.uI ht52 (by simp)
  refine w_pushV ?_
  refine w_retN rfl ?_
  exact ⟨ok52, fr52.toD, (by have hl := fr52.len; omega), (fun r h => by cases h), (by first | exact rt_n ky (by omega) (by omega) fr52.2.2.2.2 | exact rt_f ky (by omega) y1 (by omega) fr52.2.2.2.2 | omega)⟩
set_option maxRecDepth 100000 in
set_option maxHeartbeats 4000000 in
theorem e_X8_text {d : Nat} {t : TS}  (ok : OK t) (q0 : (tD t).length ≤ 90000) (q1 : GD t) : CI (EX FU (d + 86)) 102 [.ref 0] (mk t) (fun z t' => OK t' ∧ FrD [(39, 0), (39, 4), (39, 5), (39, 7), (39, 8), (39, 9), (39, 10), (40, 100), (41, 100), (39, 6), (37, 1), (1, 11), (10, 101), (11, 100), (9, 100)] t t' ∧ (tD t').length ≤ (tD t).length + 1 ∧ (tI t' 37 1 = 0) ∧ (-2147483648 ≤ z) ∧ (z ≤ 2147483647) ∧ (XCp t z t')) := by
  refine CI_ent (d := d + 85) (Bk := bX8_text) (nL := 2) rfl rfl rfl (Nat.le_of_ble_eq_true rfl) ?_
  show Rn _ 1000000 0 [some (.ref 0), none] [] _ _
  have fr : Fr [(39, 0), (39, 4), (39, 5), (39, 7), (39, 8), (39, 9), (39, 10), (40, 100), (41, 100), (39, 6), (37, 1), (1, 11), (10, 101), (11, 100), (9, 100)] t t := Fr.rf _ _
  refine w_step rfl ?_
  refine w_aload rfl ?_
  refine w_getR (g_0_4 _) ?_
  refine w_callV0R (oj_39 _).choose_spec rfl (e_X1_readText ok (by omega)) ?_ ?_
  · rintro t1 ⟨ok1, fd1, hl1, hr1, hp1_1⟩
    have fr1 : Fr [(39, 0), (39, 4), (39, 5), (39, 7), (39, 8), (39, 9), (39, 10), (40, 100), (41, 100), (39, 6), (37, 1), (1, 11), (10, 101), (11, 100), (9, 100)] t1 t1 := Fr.rf _ _
    have rtp := hp1_1
    have fdr := fd1
    refine w_astoreN (lv' := [some (.ref 0), some (.null)]) rfl ?_
    refine w_aload rfl ?_
    refine w_getR (g_0_3 _) ?_
    refine w_push kc_0 ?_
    refine w_putI (p_37_1 _) fe_37_1 ok1 (by omega) (fun t2 ht2 ok2 => ?_)
    have kf2_37_1 : tI t2 37 1 = 0 := by rw [ht2, tI_uI, if_pos ⟨rfl, rfl⟩]
    have fr2 := fr1.uI ht2 (by simp)
    have h37 := ht2
    refine w_aloadN rfl ?_
    refine w_ifnonnullN ?_
    refine w_push kc_m100 ?_
    refine w_aload rfl ?_
    refine w_getR (g_0_4 _) ?_
    refine w_getI (g_39_0 _) fe_39_0 ok2 (fun z3 hz3 hl3 hh3 => ?_)
    have hfa := hz3
    refine w_sub ?_
    refine w_retI rfl ?_
    exact ⟨ok2, ((fr.toD.then fd1 (by simp)).then fr2.toD (fun _ h => h)), (by have hl := fr2.len; omega), (by omega), (by omega), (by omega), (by first | exact xc_n rtp fdr h37 (by simp) (by simp) (by simp) (by simp) (by rw [hfa]) | exact xc_f ok rtp fdr h37 (by simp) (by simp) (by simp) (by simp) (by omega) rfl | exact xc_s ok rtp fdr h37 (by simp) (by simp) (by simp) (by simp) (by simp) (by omega) haz hat fat)⟩
  rintro r1 t1 ⟨ok1, fd1, hl1, hr1, hp1_1⟩
  obtain ⟨j1, hj1, rfl⟩ := hr1 _ rfl
  have fr1 : Fr [(39, 0), (39, 4), (39, 5), (39, 7), (39, 8), (39, 9), (39, 10), (40, 100), (41, 100), (39, 6), (37, 1), (1, 11), (10, 101), (11, 100), (9, 100)] t1 t1 := Fr.rf _ _
  have rtp := hp1_1
  have fdr := fd1
  refine w_astore (lv' := [some (.ref 0), some (.ref (92 + 4 * j1))]) rfl ?_
  refine w_aload rfl ?_
  refine w_getR (g_0_3 _) ?_
  refine w_push kc_0 ?_
  refine w_putI (p_37_1 _) fe_37_1 ok1 (by omega) (fun t4 ht4 ok4 => ?_)
  have kf4_37_1 : tI t4 37 1 = 0 := by rw [ht4, tI_uI, if_pos ⟨rfl, rfl⟩]
  have fr4 := fr1.uI ht4 (by simp)
  have h37 := ht4
  refine w_aload rfl ?_
  refine w_ifnonnullR ?_
  refine w_step rfl ?_
  refine w_aload rfl ?_
  refine w_getR (g_0_0 _) ?_
  refine w_getI (g_1_11 _) fe_1_11 ok4 (fun z5 hz5 hl5 hh5 => ?_)
  refine w_push kc_14 ?_
  refine w_clt (by omega) (fun h6 => ?_) (fun h6 => ?_)
  · skip
    refine w_step rfl ?_
    refine w_aload rfl ?_
    refine w_getR (g_0_0 _) ?_
    refine w_aload rfl ?_
    refine w_callV1I (oj_1 _).choose_spec rfl (e_X4_addText isT1 (by have hl := fr4.len; omega) ok4 (gd_v ok q1 rtp h37) (by omega)) ?_
    rintro z7 t7 ⟨ok7, fq7, hp7_0, hp7_1⟩
    have fr7 := fr4.then fq7 (by simp)
    have kf7_37_1 : tI t7 37 1 = tI t4 37 1 := fq7.1 37 1 (by simp)
    have hat := hp7_1
    have fat := fq7
    have haz := hp7_0
    refine w_retI rfl ?_
    exact ⟨ok7, ((fr.toD.then fd1 (by simp)).then fr7.toD (fun _ h => h)), (by have hl := fr7.len; omega), (by omega), (by omega), (by omega), (by first | exact xc_n rtp fdr h37 (by simp) (by simp) (by simp) (by simp) (by rw [hfa]) | exact xc_f ok rtp fdr h37 (by simp) (by simp) (by simp) (by simp) (by omega) rfl | exact xc_s ok rtp fdr h37 (by simp) (by simp) (by simp) (by simp) (by simp) (by omega) haz hat fat)⟩
  refine w_push kc_m1000000003 ?_
  refine w_retI rfl ?_
  exact ⟨ok4, ((fr.toD.then fd1 (by simp)).then fr4.toD (fun _ h => h)), (by have hl := fr4.len; omega), (by omega), (by omega), (by omega), (by first | exact xc_n rtp fdr h37 (by simp) (by simp) (by simp) (by simp) (by rw [hfa]) | exact xc_f ok rtp fdr h37 (by simp) (by simp) (by simp) (by simp) (by omega) rfl | exact xc_s ok rtp fdr h37 (by simp) (by simp) (by simp) (by simp) (by simp) (by omega) haz hat fat)⟩
end
section
/-! ===== texts and places of both sides held together ===== -/
def TXr (x : TX) (u : TS) (c k : Nat) : Prop := x.2.2.1.length ≤ 96 ∧ tA u c (89 + 2 * k) = 1000 * x.1 + (x.2.2.1.length : Int) ∧ tA u c (90 + 2 * k) = x.2.1 ∧ ∀ i, i < x.2.2.1.length → tA u c (117 + 96 * k + i) = xcF x i
def RT (t u : TS) (b c : Nat) : Prop := tI t b 11 = tA u c 4 ∧ (0 ≤ tA u c 4 ∧ tA u c 4 ≤ 14) ∧ (∀ k : Nat, (k : Int) < tA u c 4 → ∃ j, j < (tD t).length ∧ tT t (b + 9) k = some (92 + 4 * j) ∧ TXr (tx t j) u c k) ∧ ∀ q : Nat, q < 3 → tA t (b + 10) q = cuA u c q
def RPl (t u : TS) (b c : Nat) : Prop := HCt t b ∧ DK t b (tI t b 10) ∧ Agr (tI t b 10).toNat (CP t b) (RPc u c)
def SmR (P : Nat → Prop) (c c' : Nat) (u u' : TS) : Prop := ∀ i, P i → i < 1461 → tA u' c' i = tA u c i
def pT (i : Nat) : Prop := i = 4 ∨ 89 ≤ i
def pP (i : Nat) : Prop := 29 ≤ i ∧ i < 89 ∧ 3 ≤ (i - 29) % 5
theorem TXr.hd {x y : TX} {u : TS} {c k : Nat} (h : TXr x u c k) (e : Dhd y = Dhd x) : TXr y u c k := by
  obtain ⟨e1, e2, e3, e4, e5⟩ := Dhd_1 e
  obtain ⟨h1, h2, h3, h4⟩ := h
  unfold TXr
  rw [e1, e2, e3, xcF_hd e]
  exact ⟨h1, h2, h3, h4⟩
theorem TXr.mv {x : TX} {u u' : TS} {c c' k : Nat} (h : TXr x u c k) (hk : k < 14) (r : SmR pT c c' u u') : TXr x u' c' k := by
  obtain ⟨h1, h2, h3, h4⟩ := h
  refine ⟨h1, ?_, ?_, fun i hi => ?_⟩
  · rw [r _ (Or.inr (by omega)) (by omega)]; exact h2
  · rw [r _ (Or.inr (by omega)) (by omega)]; exact h3
  · rw [r _ (Or.inr (by omega)) (by omega)]; exact h4 i hi
theorem cuA_mv {u u' : TS} {c c' : Nat} (hc : tA u c 4 ≤ 14) (r : SmR pT c c' u u') (q : Int) : cuA u' c' q = cuA u c q := by
  unfold cuA
  rw [r 4 (Or.inl rfl) (by omega)]
  exact coF_cg (fun k hk => r _ (Or.inr (by omega)) (by omega))
def HdE (t t' : TS) : Prop := (tD t).length ≤ (tD t').length ∧ ∀ j, j < (tD t).length → Dhd (tx t' j) = Dhd (tx t j)
theorem HdE.of {t t' : TS} (h : (tD t').map Dhd = (tD t).map Dhd) : HdE t t' := ⟨by rw [hd_len h]; exact Nat.le_refl _, fun j _ => tx_hd h j⟩
theorem HdE.tr {t u v : TS} (h : HdE t u) (k : HdE u v) : HdE t v := ⟨Nat.le_trans h.1 k.1, fun j hj => (k.2 j (Nat.lt_of_lt_of_le hj h.1)).trans (h.2 j hj)⟩
theorem tx_old {t u : TS} {x : TX} (h : (tD u).map Dhd = (tD t).map Dhd ++ [Dhd x]) : HdE t u := by
  have hl : (tD u).length = (tD t).length + 1 := by
    have := congrArg List.length h
    simpa using this
  refine ⟨by omega, fun j hj => ?_⟩
  have hg : ∀ v : TS, Dhd (tx v j) = (((tD v).map Dhd)[j]?).getD (Dhd (0, 0, [], [], [])) := by
    intro v
    rw [List.getElem?_map]
    unfold tx
    rw [List.getD_eq_getElem?_getD]
    cases (tD v)[j]? <;> rfl
  rw [hg u, hg t, h, List.getElem?_append_left (by simpa using hj)]
theorem lwF_ok {t : TS} (ok : OK t) (b q : Nat) : lwF t b q = none ∨ ∃ j, j < (tD t).length ∧ lwF t b q = some (92 + 4 * j) := by
  have h : ∀ k, lwF t b q = some k → ∃ j, j < (tD t).length ∧ k = 92 + 4 * j := by
    intro k hk
    unfold lwF at hk
    split at hk
    · exact ok.2.2.1 _ _ _ hk
    · cases hk
  cases e : lwF t b q with
  | none => exact Or.inl rfl
  | some k =>
    obtain ⟨j, hj, ek⟩ := h k e
    exact Or.inr ⟨j, hj, by rw [ek]⟩
theorem exF_he {t t' : TS} {o : Option Nat} (h : HdE t t') (ho : o = none ∨ ∃ j, j < (tD t).length ∧ o = some (92 + 4 * j)) (d f0 f1 f2 : Int) : exF t' o d f0 f1 f2 = exF t o d f0 f1 f2 := by
  rcases ho with rfl | ⟨j, hj, rfl⟩
  · rfl
  · rw [exF_j, exF_j]
    exact evX_hd (h.2 j hj) _ _ _
theorem RT.mv {t u t' u' : TS} {b c b' c' : Nat} (h : RT t u b c) (e11 : tI t' b' 11 = tI t b 11) (e9 : ∀ i, i < 14 → tT t' (b' + 9) i = tT t (b + 9) i) (e10 : ∀ q, q < 3 → tA t' (b' + 10) q = tA t (b + 10) q) (hd : HdE t t') (r : SmR pT c c' u u') : RT t' u' b' c' := by
  obtain ⟨h1, h2, h3, h4⟩ := h
  have r4 := r 4 (Or.inl rfl) (by omega)
  refine ⟨by rw [e11, r4]; exact h1, by rw [r4]; exact h2, fun k hk => ?_, fun q hq => ?_⟩
  · rw [r4] at hk
    obtain ⟨j, hj, ht, hx⟩ := h3 k hk
    exact ⟨j, Nat.lt_of_lt_of_le hj hd.1, by rw [e9 k (by omega)]; exact ht, (hx.mv (by omega) r).hd (hd.2 j hj)⟩
  · rw [e10 q hq, cuA_mv h2.2 r]; exact h4 q hq
theorem NZ.mv {u u' : TS} {c c' : Nat} (h : NZ u c) (hc : tA u c 4 ≤ 14) (r : SmR pT c c' u u') : NZ u' c' := by
  intro k hk
  rw [r 4 (Or.inl rfl) (by omega)] at hk
  rw [r _ (Or.inr (by omega)) (by omega)]
  exact h k hk
theorem lwF_cp {t t' : TS} {b b' : Nat} (h14 : tI t b 11 ≤ 14) (e11 : tI t' b' 11 = tI t b 11) (e9 : ∀ i, i < 14 → tT t' (b' + 9) i = tT t (b + 9) i) (e10 : ∀ q, q < 3 → tA t' (b' + 10) q = tA t (b + 10) q) {q : Nat} (hq : q < 3) : lwF t' b' q = lwF t b q := by
  unfold lwF
  rw [e10 q hq, e11]
  by_cases e : 0 ≤ tA t (b + 10) q ∧ tA t (b + 10) q ≤ tI t b 11 - 1
  · rw [if_pos e, if_pos e, e9 _ (by omega)]
  · rw [if_neg e, if_neg e]
theorem dkC_cp {t t' : TS} {b b' : Nat} (ok : OK t) (h14 : tI t b 11 ≤ 14) (e11 : tI t' b' 11 = tI t b 11) (e9 : ∀ i, i < 14 → tT t' (b' + 9) i = tT t (b + 9) i) (e10 : ∀ q, q < 3 → tA t' (b' + 10) q = tA t (b + 10) q) (hd : HdE t t') {s : Nat} (a1 : tA t' (b' + 1) s = tA t (b + 1) s) (a2 : tA t' (b' + 2) s = tA t (b + 2) s) (a3 : tA t' (b' + 3) s = tA t (b + 3) s) (r v : Nat) : dkC t' b' s r v = dkC t b s r v := by
  unfold dkC
  rw [lwF_cp h14 e11 e9 e10 (by decide), a1, a2, a3]
  unfold pdF
  rw [exF_he hd (lwF_ok ok b 0)]
theorem RPl.mv {t u t' u' : TS} {b c b' c' : Nat} (h : RPl t u b c) (ok : OK t) (hn : tI t b 10 ≤ 12) (h14 : tI t b 11 ≤ 14) (e0 : tI t' b' 10 = tI t b 10) (e11 : tI t' b' 11 = tI t b 11) (a1 : ∀ i, i < 12 → tA t' (b' + 1) i = tA t (b + 1) i) (a2 : ∀ i, i < 12 → tA t' (b' + 2) i = tA t (b + 2) i) (a3 : ∀ i, i < 12 → tA t' (b' + 3) i = tA t (b + 3) i) (a4 : ∀ i, i < 12 → tA t' (b' + 4) i = tA t (b + 4) i) (a5 : ∀ i, i < 12 → tA t' (b' + 5) i = tA t (b + 5) i) (a6 : ∀ i, i < 12 → tA t' (b' + 6) i = tA t (b + 6) i) (a8 : ∀ i, i < 96 → tA t' (b' + 8) i = tA t (b + 8) i) (e9 : ∀ i, i < 14 → tT t' (b' + 9) i = tT t (b + 9) i) (e10 : ∀ q, q < 3 → tA t' (b' + 10) q = tA t (b + 10) q) (hd : HdE t t') (r : SmR pP c c' u u') : RPl t' u' b' c' := by
  obtain ⟨h1, h2, h3⟩ := h
  refine ⟨?_, ?_, ?_⟩
  · unfold HCt at h1 ⊢
    rw [e0]
    obtain ⟨k1, k2, k3⟩ := h1
    have e : ∀ s, s < (tI t b 10).toNat → tA t (b + 4) s = tA t' (b' + 4) s := fun s hs => (a4 s (by omega)).symm
    exact ⟨fun q hq => by rw [a6 q hq, k1 q hq]; exact hoF_congr e, k2.congr e, fun s hs => by rw [← e s hs]; exact k3 s hs⟩
  · intro s r' v hs hr hv
    rw [e0] at hs
    rw [a8 _ (by omega), h2 s r' v hs hr hv]
    exact (dkC_cp ok h14 e11 e9 e10 hd (a1 s (by omega)) (a2 s (by omega)) (a3 s (by omega)) r' v).symm
  · rw [e0]
    intro s hs
    obtain ⟨k1, k2⟩ := h3 s hs
    refine ⟨?_, ?_⟩
    · show tA t' (b' + 4) s = tA u' c' (32 + 5 * s)
      rw [a4 s (by omega), r _ ⟨by omega, by omega, by omega⟩ (by omega)]
      exact k1
    · show tA t' (b' + 5) s = tA u' c' (33 + 5 * s)
      rw [a5 s (by omega), r _ ⟨by omega, by omega, by omega⟩ (by omega)]
      exact k2
def tX (b : Nat) (p : Nat × Nat) : Prop := ¬ (p = (b, 11) ∨ p = (b + 9, 101) ∨ p = (b + 10, 100))
def pX (b : Nat) (p : Nat × Nat) : Prop := ¬ (p = (b, 10) ∨ p = (b, 11) ∨ p = (b + 9, 101) ∨ p = (b + 10, 100) ∨ p = (b + 1, 100) ∨ p = (b + 2, 100) ∨ p = (b + 3, 100) ∨ p = (b + 4, 100) ∨ p = (b + 5, 100) ∨ p = (b + 6, 100) ∨ p = (b + 8, 100))
theorem tX_hi {S : List (Nat × Nat)} {b : Nat} (h : ∀ p ∈ S, 45 ≤ p.1) (hb : b < 30) : ∀ p ∈ S, tX b p := fun p q e => by
  have := h p q
  rcases e with e | e | e <;> (rw [e] at this; simp only at this; omega)
theorem pX_hi {S : List (Nat × Nat)} {b : Nat} (h : ∀ p ∈ S, 45 ≤ p.1) (hb : b < 30) : ∀ p ∈ S, pX b p := fun p q e => by
  have := h p q
  rcases e with e | e | e | e | e | e | e | e | e | e | e <;> (rw [e] at this; simp only at this; omega)
theorem frT {S : List (Nat × Nat)} {t u : TS} (f : FrD S t u) (h : ∀ p ∈ S, 68 ≤ p.1) (c : Nat) (hc : c < 68) (i : Nat) : tT u c i = tT t c i := f.2.2 c (fun q => by have := h _ q; simp only at this; omega) i
theorem RT.st {S1 S2 : List (Nat × Nat)} {t t1 t2 : TS} {b c : Nat} (v : RT t t b c) (f1 : FrD S1 t t1) (f2 : FrD S2 t1 t2) (h1 : ∀ p ∈ S1, p.1 < 68) (h2 : ∀ p ∈ S2, 68 ≤ p.1) (hb : b < 30) (hc : 68 ≤ c) (a : ∀ p ∈ S1, tX b p) (hd : HdE t t2) (r : SmR pT c c t1 t2) : RT t2 t2 b c := by
  refine v.mv ?_ (fun i _ => ?_) (fun q _ => ?_) hd (fun i hi h => (r i hi h).trans (grA f1 h1 c hc i))
  · rw [frI f2 h2 b 11 (by omega)]; exact f1.1 _ _ (fun q => a _ q (Or.inl rfl))
  · rw [frT f2 h2 (b + 9) (by omega)]; exact f1.2.2 _ (fun q => a _ q (Or.inr (Or.inl rfl))) i
  · rw [frA f2 h2 (b + 10) (by omega)]; exact f1.2.1 _ (fun q => a _ q (Or.inr (Or.inr rfl))) q
theorem RPl.st {S1 S2 : List (Nat × Nat)} {t t1 t2 : TS} {b c : Nat} (v : RPl t t b c) (ok : OK t) (hn : tI t b 10 ≤ 12) (h14 : tI t b 11 ≤ 14) (f1 : FrD S1 t t1) (f2 : FrD S2 t1 t2) (h1 : ∀ p ∈ S1, p.1 < 68) (h2 : ∀ p ∈ S2, 68 ≤ p.1) (hb : b < 30) (hc : 68 ≤ c) (a : ∀ p ∈ S1, pX b p) (hd : HdE t t2) (r : SmR pP c c t1 t2) : RPl t2 t2 b c := by
  have A : ∀ k, k < 11 → (b + k, 100) ∉ S1 → ∀ i, tA t2 (b + k) i = tA t (b + k) i := fun k hk q i => by rw [frA f2 h2 (b + k) (by omega)]; exact f1.2.1 _ q i
  have I : ∀ k, (b, k) ∉ S1 → tI t2 b k = tI t b k := fun k q => by rw [frI f2 h2 b k (by omega)]; exact f1.1 _ _ q
  refine v.mv ok hn h14 (I 10 (fun q => a _ q (by simp))) (I 11 (fun q => a _ q (by simp))) (fun i _ => A 1 (by decide) (fun q => a _ q (by simp)) i) (fun i _ => A 2 (by decide) (fun q => a _ q (by simp)) i) (fun i _ => A 3 (by decide) (fun q => a _ q (by simp)) i) (fun i _ => A 4 (by decide) (fun q => a _ q (by simp)) i) (fun i _ => A 5 (by decide) (fun q => a _ q (by simp)) i) (fun i _ => A 6 (by decide) (fun q => a _ q (by simp)) i) (fun i _ => A 8 (by decide) (fun q => a _ q (by simp)) i) (fun i _ => ?_) (fun i _ => A 10 (by decide) (fun q => a _ q (by simp)) i) hd (fun i hi h => (r i hi h).trans (grA f1 h1 c hc i))
  rw [frT f2 h2 (b + 9) (by omega)]
  exact f1.2.2 _ (fun q => a _ q (by simp)) i
theorem sm_all {c : Nat} {u u' : TS} (P : Nat → Prop) (h : ∀ i, tA u' c i = tA u c i) : SmR P c c u u' := fun i _ _ => h i
/-! what a text gives, the same on both sides -/
theorem ex_eq {t u : TS} {b c q : Nat} (g : GD t) (h : RT t u b c) (hq : q < 3) {d f0 f1 f2 f2' : Int} (hf : f2 = f2' ∨ q = 1) : exF t (lwF t b q) d f0 f1 f2 = exR u c q d f0 f1 f2' := by
  obtain ⟨h1, h2, h3, h4⟩ := h
  have bb := coF_b (rkA u c) q (tA u c 4).toNat
  have hc : coF (rkA u c) q (tA u c 4).toNat = cuA u c q := rfl
  rw [hc] at bb
  unfold lwF exR
  rw [h4 q hq]
  by_cases e : cuA u c q = -1
  · rw [if_neg (by omega), if_pos e]
    rfl
  · rw [if_pos (by omega), if_neg e]
    obtain ⟨j, hj, ht, h96, ek, ea, ec⟩ := h3 (cuA u c q).toNat (by omega)
    have ha := coF_at (A := rkA u c) (q := q) e
    have ha2 : tA u c (89 + 2 * (cuA u c q).toNat) / 1000 = (q : Int) := ha
    rw [ht, exF_j]
    have en : rnA u c (cuA u c q).toNat = (tx t j).2.2.1.length := by
      unfold rnA
      omega
    unfold evX
    rw [en]
    refine evR_cg (fun i hi => ⟨(ec i hi).symm, ?_⟩)
    rcases hf with hf | hf
    · exact Or.inl hf
    · refine Or.inr ?_
      have e9 : rcA u c (cuA u c q).toNat i = xcF (tx t j) i := ec i hi
      rw [e9]
      have vs := (g j hj).2.2.1 i hi
      have ex : xcF (tx t j) i = trF (xsF (tx t j) i, xvF (tx t j) i) := rfl
      have hx1 : (tx t j).1 = 1 := by omega
      rw [hx1] at vs
      have vs2 := vs_c vs
      rw [ex]
      rcases vs2 with k | k | k | k
      · omega
      · rcases vs with w | w | w | w
        · omega
        · have := w.2.2.2 rfl; omega
        · omega
        · exact absurd (show sgF (xsF (tx t j) i) = 0 by rw [k.1]; rfl) w
      · omega
      · omega
def OX (t u : TS) (b c : Nat) : Prop := GD t ∧ RT t u b c ∧ RG t u b (b + 1) (b + 2) (b + 3) (b + 7) c ∧ RPl t u b c ∧ (0 ≤ tA u c 1 ∧ tA u c 1 ≤ 12) ∧ ∀ s, s < 12 → (0 ≤ (RPc u c).1 s ∧ (RPc u c).1 s ≤ 12) ∧ (0 ≤ (RPc u c).2 s ∧ (RPc u c).2 s ≤ 1)
theorem OX.n {t u : TS} {b c : Nat} (h : OX t u b c) : tI t b 10 = tA u c 1 := h.2.2.1.1.1
theorem dk_eq {t u : TS} {b c : Nat} (h : OX t u b c) {s : Nat} (hs : (s : Int) < tA u c 1) (r v : Nat) : dkC t b s r v = dkS u c s r v := by
  obtain ⟨g, rt, rg, -⟩ := h
  obtain ⟨a1, a2, a3⟩ := rg.2.2 s hs
  unfold dkC dkS dkA pdF hvA
  rw [a1, a2, a3, ex_eq g rt (q := 0) (by decide) (Or.inl rfl)]
  rfl
theorem oc_eq {t u : TS} {b c : Nat} (h : OX t u b c) : AgO (tI t b 10).toNat (OC t b) (OA u c) := by
  intro s p v hs hp hv
  have hn := h.n
  have hsn : (s : Int) < tA u c 1 := by omega
  have D := h.2.2.2.1.2.1
  have W := h.2.2.1.2.1
  show ofF (tA t (b + 8)) (tA t (b + 7)) s p v = OA u c s p v
  unfold ofF OA
  rw [if_pos hp]
  have w1 := W (2 * p) (by omega)
  have w2 := W (2 * p + 1) (by omega)
  rw [show 5 + (2 * p + 1) = 6 + 2 * p by omega] at w2
  have d1 := D s (p / 3) v (by omega) (by omega) hv
  have d2 := D s (p / 3) (1 - v) (by omega) (by omega) (by omega)
  rw [show (((s : Int) * 4 + (p : Int) / 3) * 2 + (v : Int)).toNat = (s * 4 + p / 3) * 2 + v by omega, show (((s : Int) * 4 + (p : Int) / 3) * 2 + (1 - (v : Int))).toNat = (s * 4 + p / 3) * 2 + (1 - v) by omega, show (2 * (p : Int)).toNat = 2 * p by omega, show (2 * (p : Int) + 1).toNat = 2 * p + 1 by omega, d1, d2, w1, w2, dk_eq h hsn, dk_eq h hsn]
/-! days: what they keep -/
def UIn (n : Nat) (x : GPU) : Prop := ∀ s, s < n → 0 ≤ x.2 s ∧ x.2 s ≤ 1
def PIn (n : Nat) (x : GPU) : Prop := InjP x.1 n ∧ ∀ s, s < n → 0 ≤ x.1 s ∧ x.1 s ≤ 12
theorem lyF_in {n : Nat} {O : Nat → Nat → Nat → Int} {r : Int} {x : GPU} (hr : 0 ≤ r ∧ r ≤ 3) : (UIn n x → UIn n (lyF n O r x)) ∧ (PIn n x → PIn n (lyF n O r x)) := by
  unfold lyF
  rcases feF_r (H := HF x.1 n) hr with e | e
  · rw [if_pos e]; exact ⟨id, id⟩
  · rw [if_neg (by omega)]
    have lr := lbF_r (fun s u => O s (feF (HF x.1 n) r).toNat u) x.1 (2 * n)
    split
    · exact ⟨id, id⟩
    · refine ⟨fun h s hs => ?_, fun h => ⟨?_, fun s hs => ?_⟩⟩
      · show 0 ≤ upF _ _ _ s ∧ upF _ _ _ s ≤ 1
        unfold upF
        split
        · omega
        · exact h s hs
      · refine h.1.up (fun _ q hq hp => ?_)
        have hno := hoF_no (P := x.1) (p := (((feF (HF x.1 n) r).toNat : Nat) : Int)) (n := n) e.2.2 q hq
        rw [Int.toNat_of_nonneg e.1] at hno
        exact absurd hp hno
      · show 0 ≤ upF _ _ _ s ∧ upF _ _ _ s ≤ 12
        unfold upF
        split
        · omega
        · exact h.2 s hs
theorem tuF_in {n : Nat} {p : Int} {x : GPU} : (UIn n x → UIn n (tuF n p x)) ∧ (PIn n x → PIn n (tuF n p x)) := by
  unfold tuF
  split
  · exact ⟨id, id⟩
  · rename_i e
    have b := hoF_b x.1 p n
    refine ⟨fun h s hs => ?_, id⟩
    have h2 := h (hoF x.1 p n).toNat (by omega)
    show 0 ≤ upF _ _ _ s ∧ upF _ _ _ s ≤ 1
    unfold upF
    split
    · omega
    · exact h s hs
theorem dysF_in {n : Nat} {O : Nat → Nat → Nat → Int} {w z : Int} {x : GPU} : ∀ k : Nat, (UIn n x → UIn n (dysF n O w z k x)) ∧ (PIn n x → PIn n (dysF n O w z k x))
  | 0 => ⟨id, id⟩
  | k + 1 => by
    have ih := dysF_in (n := n) (O := O) (w := w) (z := z) (x := x) k
    have r := drF_r (znF (zdsF k z w))
    have l := lyF_in (n := n) (O := O) (r := drF (znF (zdsF k z w)) % 4) (x := dysF n O w z k x) (by omega)
    show (_ → UIn n (dyF n O w (zdsF k z w) (dysF n O w z k x))) ∧ (_ → PIn n (dyF n O w (zdsF k z w) (dysF n O w z k x)))
    unfold dyF
    split
    · exact ⟨fun h => tuF_in.1 (l.1 (ih.1 h)), fun h => tuF_in.2 (l.2 (ih.2 h))⟩
    · exact ⟨fun h => l.1 (ih.1 h), fun h => l.2 (ih.2 h)⟩
theorem OX.cp {t u : TS} {b c : Nat} (h : OX t u b c) {s : Nat} (hs : s < (tI t b 10).toNat) : (CP t b).1 s = (RPc u c).1 s ∧ (CP t b).2 s = (RPc u c).2 s := h.2.2.2.1.2.2 s hs
theorem OX.uin {t u : TS} {b c : Nat} (h : OX t u b c) : UIn (tI t b 10).toNat (CP t b) := fun s hs => by
  have hn := h.n
  have h12 := h.2.2.2.2.1
  rw [(h.cp hs).2]
  exact (h.2.2.2.2.2 s (by omega)).2
theorem OX.pin {t u : TS} {b c : Nat} (h : OX t u b c) : PIn (tI t b 10).toNat (CP t b) := ⟨h.2.2.2.1.1.2.1, fun s hs => by
  have hn := h.n
  have h12 := h.2.2.2.2.1
  rw [(h.cp hs).1]
  exact (h.2.2.2.2.2 s (by omega)).1⟩
theorem OX.ag {t u : TS} {b c : Nat} (h : OX t u b c) (k : Nat) : Agr (tI t b 10).toNat (xG t b k) (xA u c k) := by
  obtain ⟨a1, a2, a3, a4⟩ := h.2.2.1.1
  have o := oc_eq h
  have g := h.2.2.2.1.2.2
  unfold xG xA
  rw [a2, a4, ← a1]
  exact dysF_agr g o k
theorem OX.pc {t u : TS} {b c : Nat} (h : OX t u b c) (k : Nat) : pcX t b k = pcA u c k := by
  have hn := h.n
  unfold pcX pcA
  rw [← hn]
  exact picG_cg2 (h.ag k) (oc_eq h) ((dysF_in k).1 h.uin)
theorem OX.lr {t u : TS} {b c : Nat} (h : OX t u b c) {s : Nat} (hs : s < (tI t b 10).toNat) : tA t (b + 2) s = LA u c s ∧ tA t (b + 3) s = RA u c s := by
  have hn := h.n
  obtain ⟨-, a2, a3⟩ := h.2.2.1.2.2 s (by omega)
  exact ⟨a2, a3⟩
theorem OX.hv {t u : TS} {b c : Nat} (h : OX t u b c) {s : Nat} (hs : s < (tI t b 10).toNat) : hvT t b s = hvA u c s := by
  have hn := h.n
  obtain ⟨a1, a2, a3⟩ := h.2.2.1.2.2 s (by omega)
  unfold hvT hvA
  rw [a1, a2, a3]
theorem OX.mt {t u : TS} {b c : Nat} (h : OX t u b c) (k : Nat) : mtX t b k = mtA u c k := by
  have hn := h.n
  unfold mtX mtA
  rw [← hn]
  exact matG_cg (h.ag k) (fun s hs => h.lr hs)
theorem OX.cn {t u : TS} {b c : Nat} (h : OX t u b c) (k : Nat) : cnX t b k = caA u c k := by
  have hn := h.n
  have p : PIn (tI t b 10).toNat (xG t b k) := (dysF_in k).2 h.pin
  unfold cnX caA cnG
  rw [← hn, cn_ca _ p.1 p.2]
  exact caF_congr _ (fun s hs => (h.ag k s hs).1)
theorem OX.at {t u : TS} {b c : Nat} (h : OX t u b c) (k : Nat) (p : Int) : atX t b k p = atA u c k p := by
  have hn := h.n
  unfold atX atA
  rw [← hn]
  exact hoF_congr (fun s hs => (h.ag k s hs).1)
theorem OX.ph {t u : TS} {b c : Nat} (h : OX t u b c) : phG (tI t b 10).toNat (CP t b) = phG (tA u c 1).toNat (RPc u c) := by
  have hn := h.n
  rw [← hn]
  exact phG_cg h.2.2.2.1.2.2
theorem OX.fl {t u : TS} {b c : Nat} (h : OX t u b c) {p : Nat} (hp : p ≤ 12) : flF (hvT t b) (HF (CP t b).1 (tI t b 10).toNat) p = flF (hvA u c) (HF (RPc u c).1 (tA u c 1).toNat) p := by
  have hn := h.n
  rw [← hn]
  exact flF_cg h.2.2.2.1.2.2 (fun s hs => h.hv hs) hp
theorem OX.bf {t u : TS} {b c : Nat} (h : OX t u b c) {p : Nat} (hp : p < 12) : bfF (fun s => min (OC t b s p 0) (OC t b s p 1)) (tI t b 10).toNat = bfF (fun s => min (OA u c s p 0) (OA u c s p 1)) (tA u c 1).toNat := by
  have hn := h.n
  have o := oc_eq h
  rw [← hn]
  refine bfF_cg (fun s hs => ?_)
  rw [o s p 0 hs hp (by decide), o s p 1 hs hp (by decide)]
theorem OX.lo {t u : TS} {b c : Nat} (h : OX t u b c) (k : Nat) : bfF (fun s => picG (tI t b 10).toNat (OC t b) (dysF (tI t b 10).toNat (OC t b) (tI t b 12) (tI t b 14) k (upF (tA t (b + 4)) s 13, tA t (b + 5)))) (tI t b 10).toNat = bfF (fun s => picG (tA u c 1).toNat (OA u c) (dysF (tA u c 1).toNat (OA u c) (tA u c 3) (tA u c 0) k (upF (RPc u c).1 s 13, (RPc u c).2))) (tA u c 1).toNat := by
  obtain ⟨a1, a2, a3, a4⟩ := h.2.2.1.1
  have o := oc_eq h
  rw [a2, a4, ← a1]
  refine bfF_cg (fun s hs => ?_)
  have g : Agr (tI t b 10).toNat (upF (tA t (b + 4)) s 13, tA t (b + 5)) (upF (RPc u c).1 s 13, (RPc u c).2) := by
    intro q hq
    have e := h.cp hq
    refine ⟨?_, e.2⟩
    show upF (tA t (b + 4)) s 13 q = upF (RPc u c).1 s 13 q
    unfold upF
    split
    · rfl
    · exact e.1
  refine picG_cg2 (dysF_agr g o k) o ((dysF_in k).1 ?_)
  exact fun q hq => h.uin q hq
theorem OX.up {t u u' : TS} {b c : Nat} (h : OX t u b c) (r : ∀ i, tA u' c i = tA u c i) : OX t u' b c := by
  obtain ⟨g, rt, rg, pl, n, x⟩ := h
  have e : RPc u' c = RPc u c := by
    unfold RPc
    congr 1 <;> (funext s; exact r _)
  obtain ⟨t1, t2, t3, t4⟩ := rt
  refine ⟨g, ?_, rg.r r, ⟨pl.1, pl.2.1, by rw [e]; exact pl.2.2⟩, by rw [r]; exact n, by rw [e]; exact x⟩
  refine ⟨by rw [r]; exact t1, by rw [r]; exact t2, fun k hk => ?_, fun q hq => by rw [cuA_mv t2.2 (sm_all pT r)]; exact t4 q hq⟩
  rw [r] at hk
  obtain ⟨j, hj, ht, hx⟩ := t3 k hk
  exact ⟨j, hj, ht, hx.mv (by omega) (sm_all pT r)⟩
theorem OX.m1 {t : TS} (ok : OK t) (g : GD t) (rt : RT t t 1 69) (rg : RG t t 1 2 3 4 8 69) (pl : RPl t t 1 69) : OX t t 1 69 := ⟨g, rt, rg, pl, ok.a (ax_69 nr_1), fun s hs => ⟨ok.a (ax_69 (nr_S3 (s := s) ⟨rfl, hs⟩)), ok.a (ax_69 (nr_S4 (s := s) ⟨rfl, hs⟩))⟩⟩
theorem OX.m2 {t : TS} (ok : OK t) (g : GD t) (rt : RT t t 12 70) (rg : RG t t 12 13 14 15 19 70) (pl : RPl t t 12 70) : OX t t 12 70 := ⟨g, rt, rg, pl, ok.a (ax_70 nr_1), fun s hs => ⟨ok.a (ax_70 (nr_S3 (s := s) ⟨rfl, hs⟩)), ok.a (ax_70 (nr_S4 (s := s) ⟨rfl, hs⟩))⟩⟩
end
section
/-! ===== two stones changed ===== -/
def pcT (O : Nat → Nat → Nat → Int) (U H : Nat → Int) (p : Nat) : Int := if H p = -1 then 198 else O (H p).toNat p (U (H p).toNat).toNat
theorem picH_two {O : Nat → Nat → Nat → Int} {U H H' : Nat → Int} {a b : Nat} (hab : ¬ a = b) (h : ∀ q, ¬ q = a → ¬ q = b → H' q = H q) : ∀ m : Nat, picH O U H' m = picH O U H m + (if a < m then pcT O U H' a - pcT O U H a else 0) + (if b < m then pcT O U H' b - pcT O U H b else 0)
  | 0 => by
    rw [if_neg (by omega), if_neg (by omega)]
    rfl
  | m + 1 => by
    have ih := picH_two (O := O) (U := U) hab h m
    have e1 : picH O U H' (m + 1) = picH O U H' m + pcT O U H' m := rfl
    have e2 : picH O U H (m + 1) = picH O U H m + pcT O U H m := rfl
    rw [e1, e2, ih]
    by_cases ha : m = a
    · subst ha
      rw [if_neg (Nat.lt_irrefl _), if_pos (Nat.lt_succ_self _)]
      by_cases hb : b < m
      · rw [if_pos hb, if_pos (by omega)]; omega
      · rw [if_neg hb, if_neg (by omega)]; omega
    · by_cases hb : m = b
      · subst hb
        rw [if_neg (Nat.lt_irrefl m), if_pos (Nat.lt_succ_self _)]
        by_cases ha2 : a < m
        · rw [if_pos ha2, if_pos (by omega)]; omega
        · rw [if_neg ha2, if_neg (by omega)]; omega
      · have e3 : pcT O U H' m = pcT O U H m := by
          unfold pcT
          rw [h m ha hb]
        rw [e3]
        by_cases ha2 : a < m <;> by_cases hb2 : b < m
        · rw [if_pos ha2, if_pos hb2, if_pos (by omega), if_pos (by omega)]; omega
        · rw [if_pos ha2, if_neg hb2, if_pos (by omega), if_neg (by omega)]; omega
        · rw [if_neg ha2, if_pos hb2, if_neg (by omega), if_pos (by omega)]; omega
        · rw [if_neg ha2, if_neg hb2, if_neg (by omega), if_neg (by omega)]; omega
def swP (P : Nat → Int) (x y : Nat) : Nat → Int := upF (upF P x (P y)) y (P x)
theorem swP_y (P : Nat → Int) (x y : Nat) : swP P x y y = P x := by
  unfold swP upF
  rw [if_pos rfl]
theorem swP_x {P : Nat → Int} {x y : Nat} (h : ¬ x = y) : swP P x y x = P y := by
  unfold swP upF
  rw [if_neg h, if_pos rfl]
theorem swP_o {P : Nat → Int} {x y s : Nat} (hx : ¬ s = x) (hy : ¬ s = y) : swP P x y s = P s := by
  unfold swP upF
  rw [if_neg hy, if_neg hx]
theorem swP_inj {P : Nat → Int} {n x y : Nat} (hi : InjP P n) (hx : x < n) (hy : y < n) (hxy : ¬ x = y) : InjP (swP P x y) n := by
  intro s s' hs hs' e h12
  have i1 := hi s s' hs hs'
  have i2 := hi s x hs hx
  have i3 := hi s y hs hy
  have i4 := hi x s' hx hs'
  have i5 := hi y s' hy hs'
  have i6 := hi x y hx hy
  have i7 := hi y x hy hx
  by_cases a : s = y
  · subst a
    rw [swP_y] at e h12
    by_cases b : s' = s
    · exact b.symm
    · by_cases c : s' = x
      · subst c
        rw [swP_x hxy] at e
        exact (i6 e h12).symm
      · rw [swP_o c b] at e
        exact absurd (i4 e h12).symm c
  · by_cases a2 : s = x
    · subst a2
      rw [swP_x hxy] at e h12
      by_cases b : s' = y
      · subst b
        rw [swP_y] at e
        exact (i7 e h12).symm
      · by_cases c : s' = s
        · exact c.symm
        · rw [swP_o c b] at e
          exact absurd (i5 e h12).symm b
    · rw [swP_o a2 a] at e h12
      by_cases b : s' = y
      · subst b
        rw [swP_y] at e
        exact absurd (i2 e h12) a2
      · by_cases c : s' = x
        · subst c
          rw [swP_x hxy] at e
          exact absurd (i3 e h12) a
        · rw [swP_o c b] at e
          exact i1 e h12
theorem pic_sw {O : Nat → Nat → Nat → Int} {P U : Nat → Int} {n x y : Nat} (hi : InjP P n) (hx : x < n) (hy : y < n) (hxy : ¬ x = y) (h1 : 0 ≤ P x ∧ P x < 12) (h2 : 0 ≤ P y ∧ P y < 12) : picG n O (P, U) - picG n O (swP P x y, U) = (O x (P x).toNat (U x).toNat + O y (P y).toNat (U y).toNat) - (O x (P y).toNat (U x).toNat + O y (P x).toNat (U y).toNat) := by
  have hi2 := swP_inj hi hx hy hxy
  have hne : ¬ P x = P y := fun e => hxy (hi x y hx hy e h1.2)
  have hab : ¬ (P x).toNat = (P y).toNat := by omega
  have hq : ∀ q : Nat, ¬ q = (P x).toNat → ¬ q = (P y).toNat → HF (swP P x y) n q = HF P n q := by
    intro q q1 q2
    show hoF _ _ _ = hoF _ _ _
    refine hoF_cong2 (fun s hs => ?_)
    by_cases a : s = y
    · subst a
      rw [swP_y]
      constructor <;> intro e <;> (exfalso; omega)
    · by_cases b : s = x
      · subst b
        rw [swP_x hxy]
        constructor <;> intro e <;> (exfalso; omega)
      · rw [swP_o b a]
  have k := picH_two (O := O) (U := U) hab hq 12
  rw [if_pos (by omega), if_pos (by omega)] at k
  have a1 : HF P n (P x).toNat = x := hoF_is hi hx (by omega) (by omega)
  have a2 : HF P n (P y).toNat = y := hoF_is hi hy (by omega) (by omega)
  have a3 : HF (swP P x y) n (P x).toNat = y := hoF_is hi2 hy (by rw [swP_y]; omega) (by omega)
  have a4 : HF (swP P x y) n (P y).toNat = x := hoF_is hi2 hx (by rw [swP_x hxy]; omega) (by omega)
  have t1 : pcT O U (HF P n) (P x).toNat = O x (P x).toNat (U x).toNat := by
    unfold pcT
    rw [a1, if_neg (by omega)]
    rfl
  have t2 : pcT O U (HF P n) (P y).toNat = O y (P y).toNat (U y).toNat := by
    unfold pcT
    rw [a2, if_neg (by omega)]
    rfl
  have t3 : pcT O U (HF (swP P x y) n) (P x).toNat = O y (P x).toNat (U y).toNat := by
    unfold pcT
    rw [a3, if_neg (by omega)]
    rfl
  have t4 : pcT O U (HF (swP P x y) n) (P y).toNat = O x (P y).toNat (U x).toNat := by
    unfold pcT
    rw [a4, if_neg (by omega)]
    rfl
  rw [t1, t2, t3, t4] at k
  show picH O U (HF P n) 12 - picH O U (HF (swP P x y) n) 12 = _
  omega
theorem gn_eq {t u : TS} {b : Nat} (h : OX t u b 69) {x y : Nat} (hxy : x < y) (hy : y < (tI t b 10).toNat) : gnF (OC t b) (tA t (b + 4)) (tA t (b + 5)) x y = gsA u x y := by
  have hn := h.n
  have o := oc_eq h
  have hp := h.pin
  have cx := h.cp (s := x) (by omega)
  have cy := h.cp (s := y) hy
  have rx := hp.2 x (by omega)
  have ry := hp.2 y hy
  have ax : tA t (b + 4) x = AA u 69 x := cx.1
  have ay : tA t (b + 4) y = AA u 69 y := cy.1
  have bx : (CP t b).1 x = tA t (b + 4) x := rfl
  have by' : (CP t b).1 y = tA t (b + 4) y := rfl
  rw [bx] at rx
  rw [by'] at ry
  unfold gnF gsA
  by_cases q : tA t (b + 4) x < 12 ∧ tA t (b + 4) y < 12
  · rw [if_pos q, if_pos (by rw [← ax, ← ay]; omega), ← h.pc 0]
    have e : picG (tA u 69 1).toNat (OA u 69) (upF (upF (RPc u 69).1 x (AA u 69 y)) y (AA u 69 x), (RPc u 69).2) = picG (tI t b 10).toNat (OC t b) (swP (tA t (b + 4)) x y, tA t (b + 5)) := by
      rw [← hn]
      refine (picG_cg2 ?_ o ?_).symm
      · intro s hs
        have e := h.cp hs
        refine ⟨?_, e.2⟩
        show upF (upF (tA t (b + 4)) x (tA t (b + 4) y)) y (tA t (b + 4) x) s = upF (upF (RPc u 69).1 x (AA u 69 y)) y (AA u 69 x) s
        rw [ax, ay]
        unfold upF
        split
        · rfl
        · split
          · rfl
          · exact e.1
      · exact fun s hs => h.uin s hs
    rw [e]
    exact (pic_sw (U := tA t (b + 5)) hp.1 (by omega) hy (by omega) (by omega) (by omega)).symm
  · rw [if_neg q, if_neg (by rw [← ax, ← ay]; omega)]
theorem sw_eq {t u : TS} {b : Nat} (h : OX t u b 69) : swO (gnF (OC t b) (tA t (b + 4)) (tA t (b + 5))) (tI t b 10).toNat (tI t b 10).toNat = swO (gsA u) (tA u 69 1).toNat (tA u 69 1).toNat := by
  have hn := h.n
  rw [← hn]
  exact swO_cg (fun x y hxy hy => gn_eq h hxy hy) _ (Nat.le_refl _)
end
