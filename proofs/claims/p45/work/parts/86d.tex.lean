section
theorem at_s {a u v : TS} {b : Nat} {s : Int} (h0 : 0 ≤ s) (f : Fr [(b + 8, 100)] a u) (h : ∀ s2 r v : Nat, (s2 : Int) < s → r < 4 → v < 2 → tA u (b + 8) ((s2 * 4 + r) * 2 + v) = dkC a b s2 r v) (d : DNp u v b s.toNat 4) : ∀ s2 r w : Nat, (s2 : Int) < s + 1 → r < 4 → w < 2 → tA v (b + 8) ((s2 * 4 + r) * 2 + w) = dkC a b s2 r w := by
  intro s2 r w h1 h2 h3
  by_cases e : s2 = s.toNat
  · subst e
    rw [d.1 r w h2 h3]
    exact dkC_fr f (by simp) (by simp) (by simp) (by simp) (by simp) (by simp) _ _ _
  · rw [d.2 _ (by omega)]
    exact h s2 r w (by omega) h2 h3
theorem at_e {a u : TS} {b : Nat} {n : Int} (f : Fr [(b + 8, 100)] a u) (h : ∀ s2 r v : Nat, (s2 : Int) < n → r < 4 → v < 2 → tA u (b + 8) ((s2 * 4 + r) * 2 + v) = dkC a b s2 r v) : DK u b n := by
  intro s r v hs hr hv
  rw [h s r v hs hr hv]
  exact (dkC_fr f (by simp) (by simp) (by simp) (by simp) (by simp) (by simp) _ _ _).symm
set_option maxRecDepth 100000 in
set_option maxHeartbeats 4000000 in
theorem e_X4_addStone {d : Nat} {t : TS} {b : Nat} {k l r : Int}  (hb : isT b) (ok : OK t) (q0 : GD t) (q1 : 0 ≤ k) (q2 : k ≤ 5) (q3 : 0 ≤ l) (q4 : l ≤ 6) (q5 : 0 ≤ r) (q6 : r ≤ 6) (q7 : tI t b 10 ≤ 11) : CI (EX FU (d + 6)) 31 [.ref b, .int (jI k), .int (jI l), .int (jI r)] (mk t) (fun z t' => OK t' ∧ Fr [(b, 10), (b + 1, 100), (b + 2, 100), (b + 3, 100), (b + 4, 100), (b + 5, 100), (b + 8, 100)] t t' ∧ (z = tI t b 10) ∧ (tI t' b 10 = tI t b 10 + 1) ∧ (∀ i, tA t' (b + 1) i = if i = (tI t b 10).toNat then k else tA t (b + 1) i) ∧ (∀ i, tA t' (b + 2) i = if i = (tI t b 10).toNat then l else tA t (b + 2) i) ∧ (∀ i, tA t' (b + 3) i = if i = (tI t b 10).toNat then r else tA t (b + 3) i) ∧ (ASp t t' b)) := by
  refine CI_ent (d := d + 5) (Bk := bX4_addStone) (nL := 5) rfl rfl rfl (Nat.le_of_ble_eq_true rfl) ?_
  show Rn _ 1000000 0 [some (.ref b), some (.int (jI k)), some (.int (jI l)), some (.int (jI r)), none] [] _ _
  have fr : Fr [(b, 10), (b + 1, 100), (b + 2, 100), (b + 3, 100), (b + 4, 100), (b + 5, 100), (b + 8, 100)] t t := Fr.rf _ _
  refine w_step rfl ?_
  refine w_aload rfl ?_
  refine w_getI (gT_10 hb _) (feT_10 hb) ok (fun z1 hz1 hl1 hh1 => ?_)
  refine w_istore (lv' := [some (.ref b), some (.int (jI k)), some (.int (jI l)), some (.int (jI r)), some (.int (jI z1))]) rfl ?_
  refine w_aload rfl ?_
  refine w_dupR ?_
  refine w_getI (gT_10 hb _) (feT_10 hb) ok (fun z2 hz2 hl2 hh2 => ?_)
  refine w_push kc_1 ?_
  refine w_add ?_
  refine w_putI (pT_10 hb _) (feT_10 hb) ok (by omega) (fun t3 ht3 ok3 => ?_)
  have fr3 := fr.uI ht3 (by simp)
  refine w_aload rfl ?_
  refine w_getR (gT_0 hb _) ?_
  refine w_iload rfl ?_
  refine w_iload rfl ?_
  refine w_iast (i := (z1).toNat) (aiT_1 hb _) rfl (by omega) (by omega) (aeT_1 hb _) ok3 (by omega) (fun t4 ht4 ok4 => ?_)
  have fr4 := fr3.uA ht4 (by simp)
  refine w_aload rfl ?_
  refine w_getR (gT_1 hb _) ?_
  refine w_iload rfl ?_
  refine w_iload rfl ?_
  refine w_iast (i := (z1).toNat) (aiT_2 hb _) rfl (by omega) (by omega) (aeT_2 hb _) ok4 (by omega) (fun t5 ht5 ok5 => ?_)
  have fr5 := fr4.uA ht5 (by simp)
  refine w_aload rfl ?_
  refine w_getR (gT_2 hb _) ?_
  refine w_iload rfl ?_
  refine w_iload rfl ?_
  refine w_iast (i := (z1).toNat) (aiT_3 hb _) rfl (by omega) (by omega) (aeT_3 hb _) ok5 (by omega) (fun t6 ht6 ok6 => ?_)
  have fr6 := fr5.uA ht6 (by simp)
  refine w_aload rfl ?_
  refine w_getR (gT_3 hb _) ?_
  refine w_iload rfl ?_
  refine w_push kc_12 ?_
  refine w_iast (i := (z1).toNat) (aiT_4 hb _) rfl (by omega) (by omega) (aeT_4 hb _) ok6 (by omega) (fun t7 ht7 ok7 => ?_)
  have fr7 := fr6.uA ht7 (by simp)
  refine w_aload rfl ?_
  refine w_getR (gT_4 hb _) ?_
  refine w_iload rfl ?_
  refine w_push kc_0 ?_
  refine w_iast (i := (z1).toNat) (aiT_5 hb _) rfl (by omega) (by omega) (aeT_5 hb _) ok7 (by omega) (fun t8 ht8 ok8 => ?_)
  have fr8 := fr7.uA ht8 (by simp)
  refine w_aload rfl ?_
  refine w_iload rfl ?_
  refine w_callV1V (ojT hb _).choose_spec rfl (e_X4_darken hb ok8 (GD.fr q0 fr8) (by omega) (by omega)) ?_
  rintro t9 ⟨ok9, fq9, hp9_0⟩
  have fr9 := fr8.then fq9 (by simp)
  have fqd := fq9
  have hdn := hp9_0
  rw [hz1] at hdn
  refine w_iload rfl ?_
  refine w_retI rfl ?_
  exact ⟨ok9, fr9, (by omega), (by rw [fqd.1 b 10 (by simp)]; subst_vars; simp [tI_uA, tI_uI]), (by intro i; rw [fqd.2.1 (b + 1) (by simp) i]; subst_vars; simp [tA_uA, tA_uI, tI_uI]), (by intro i; rw [fqd.2.1 (b + 2) (by simp) i]; subst_vars; simp [tA_uA, tA_uI, tI_uI]), (by intro i; rw [fqd.2.1 (b + 3) (by simp) i]; subst_vars; simp [tA_uA, tA_uI, tI_uI]), ⟨(by intro i; rw [fqd.2.1 (b + 4) (by simp) i]; subst_vars; simp [tA_uA, tA_uI, tI_uI]), (by intro i; rw [fqd.2.1 (b + 5) (by simp) i]; subst_vars; simp [tA_uA, tA_uI, tI_uI]), fun r v hr hv => (hdn.1 r v hr hv).trans (dkC_fr fqd (by simp) (by simp) (by simp) (by simp) (by simp) (by simp) _ _ _).symm, fun i hi => (hdn.2 i hi).trans (by subst_vars; simp [tA_uA, tA_uI])⟩⟩
set_option maxRecDepth 100000 in
set_option maxHeartbeats 4000000 in
theorem e_X4_drawStone {d : Nat} {t : TS} {b : Nat}  (hb : isT b) (ok : OK t) (q0 : GD t) (q1 : tI t b 10 ≤ 11) : CV (EX FU (d + 7)) 32 [.ref b] (mk t) (fun t' => OK t' ∧ Fr [(b, 10), (b, 14), (b + 1, 100), (b + 2, 100), (b + 3, 100), (b + 4, 100), (b + 5, 100), (b + 8, 100)] t t' ∧ (tI t' b 14 = znF (znF (znF (tI t b 14)))) ∧ (tI t' b 10 = tI t b 10 + 1) ∧ (∀ i, tA t' (b + 1) i = if i = (tI t b 10).toNat then drF (znF (tI t b 14)) % 6 else tA t (b + 1) i) ∧ (∀ i, tA t' (b + 2) i = if i = (tI t b 10).toNat then drF (znF (znF (tI t b 14))) % 7 else tA t (b + 2) i) ∧ (∀ i, tA t' (b + 3) i = if i = (tI t b 10).toNat then drF (znF (znF (znF (tI t b 14)))) % 7 else tA t (b + 3) i) ∧ (ASp t t' b)) := by
  refine CV_ent (d := d + 6) (Bk := bX4_drawStone) (nL := 4) rfl rfl rfl (Nat.le_of_ble_eq_true rfl) ?_
  show Rn _ 1000000 0 [some (.ref b), none, none, none] [] _ _
  have fr : Fr [(b, 10), (b, 14), (b + 1, 100), (b + 2, 100), (b + 3, 100), (b + 4, 100), (b + 5, 100), (b + 8, 100)] t t := Fr.rf _ _
  refine w_step rfl ?_
  refine w_aload rfl ?_
  refine w_callV0I (ojT hb _).choose_spec rfl (c_X4_draw hb ok) ?_
  rintro z1 t1 ⟨ok1, fq1, hp1_0, hp1_1, hp1_2, hp1_3⟩
  have fr1 := fr.then fq1 (by simp)
  have e1 : tI t1 b 14 = znF (tI t b 14) := hp1_0
  have v1 : z1 = drF (znF (tI t b 14)) := hp1_1
  have n1 : tI t1 b 10 = tI t b 10 := fq1.1 b 10 (by simp)
  have a1 : ∀ c i, tA t1 c i = tA t c i := fun c i => fq1.2.1 c (by simp) i
  refine w_push kc_6 ?_
  refine w_rem (by omega) ?_
  refine w_istore (lv' := [some (.ref b), some (.int (jI (z1 % 6))), none, none]) rfl ?_
  refine w_aload rfl ?_
  refine w_callV0I (ojT hb _).choose_spec rfl (c_X4_draw hb ok1) ?_
  rintro z2 t2 ⟨ok2, fq2, hp2_0, hp2_1, hp2_2, hp2_3⟩
  have fr2 := fr1.then fq2 (by simp)
  have v2 : z2 = drF (znF (znF (tI t b 14))) := by rw [hp2_1, e1]
  have e2 : tI t2 b 14 = znF (znF (tI t b 14)) := by rw [hp2_0, e1]
  have n2 : tI t2 b 10 = tI t b 10 := (fq2.1 b 10 (by simp)).trans n1
  have a2 : ∀ c i, tA t2 c i = tA t c i := fun c i => (fq2.2.1 c (by simp) i).trans (a1 c i)
  refine w_push kc_7 ?_
  refine w_rem (by omega) ?_
  refine w_istore (lv' := [some (.ref b), some (.int (jI (z1 % 6))), some (.int (jI (z2 % 7))), none]) rfl ?_
  refine w_aload rfl ?_
  refine w_callV0I (ojT hb _).choose_spec rfl (c_X4_draw hb ok2) ?_
  rintro z3 t3 ⟨ok3, fq3, hp3_0, hp3_1, hp3_2, hp3_3⟩
  have fr3 := fr2.then fq3 (by simp)
  have v3 : z3 = drF (znF (znF (znF (tI t b 14)))) := by rw [hp3_1, e2]
  have e3 : tI t3 b 14 = znF (znF (znF (tI t b 14))) := by rw [hp3_0, e2]
  have n3 : tI t3 b 10 = tI t b 10 := (fq3.1 b 10 (by simp)).trans n2
  have a3 : ∀ c i, tA t3 c i = tA t c i := fun c i => (fq3.2.1 c (by simp) i).trans (a2 c i)
  refine w_push kc_7 ?_
  refine w_rem (by omega) ?_
  refine w_istore (lv' := [some (.ref b), some (.int (jI (z1 % 6))), some (.int (jI (z2 % 7))), some (.int (jI (z3 % 7)))]) rfl ?_
  refine w_aload rfl ?_
  refine w_iload rfl ?_
  refine w_iload rfl ?_
  refine w_iload rfl ?_
  refine w_callV3I (ojT hb _).choose_spec rfl (e_X4_addStone hb ok3 (GD.fr q0 fr3) (by omega) (by omega) (by omega) (by omega) (by omega) (by omega) (by omega)) ?_
  rintro z4 t4 ⟨ok4, fq4, hp4_0, hp4_1, hp4_2, hp4_3, hp4_4, hp4_5⟩
  have fr4 := fr3.then fq4 (by simp)
  have e4 := (fq4.1 b 14 (by simp)).trans e3
  have m1 := hp4_1
  have m2 := hp4_2
  have m3 := hp4_3
  have m4 := hp4_4
  have m5 := hp4_5
  refine w_popI ?_
  refine w_retV ?_
  exact ⟨ok4, fr4, e4, (by omega), (by intro i; rw [m2 i, n3, a3, v1]), (by intro i; rw [m3 i, n3, a3, v2]), (by intro i; rw [m4 i, n3, a3, v3]), (by unfold ASp at m5 ⊢; simp only [n3, a3] at m5; exact m5)⟩
set_option maxRecDepth 100000 in
set_option maxHeartbeats 4000000 in
theorem e_X4_addText {d : Nat} {t : TS} {b : Nat} {x : Nat}  (hb : isT b) (hx : x < (tD t).length) (ok : OK t) (q0 : GD t) (q1 : tI t b 11 ≤ 13) : CI (EX FU (d + 6)) 36 [.ref b, .ref (92 + 4 * x)] (mk t) (fun z t' => OK t' ∧ Fr [(b, 11), (b + 9, 101), (b + 10, 100), (b + 8, 100)] t t' ∧ (z = tI t b 11) ∧ (ATp t t' b x)) := by
  refine CI_ent (d := d + 5) (Bk := bX4_addText) (nL := 4) rfl rfl rfl (Nat.le_of_ble_eq_true rfl) ?_
  show Rn _ 1000000 0 [some (.ref b), some (.ref (92 + 4 * x)), none, none] [] _ _
  have fr : Fr [(b, 11), (b + 9, 101), (b + 10, 100), (b + 8, 100)] t t := Fr.rf _ _
  have hn11 := ok.f (feT_11 hb)
  have hn10 := ok.f (feT_10 hb)
  refine w_step rfl ?_
  refine w_aload rfl ?_
  refine w_getI (gT_11 hb _) (feT_11 hb) ok (fun z1 hz1 hl1 hh1 => ?_)
  refine w_istore (lv' := [some (.ref b), some (.ref (92 + 4 * x)), some (.int (jI z1)), none]) rfl ?_
  refine w_aload rfl ?_
  refine w_dupR ?_
  refine w_getI (gT_11 hb _) (feT_11 hb) ok (fun z2 hz2 hl2 hh2 => ?_)
  refine w_push kc_1 ?_
  refine w_add ?_
  refine w_putI (pT_11 hb _) (feT_11 hb) ok (by omega) (fun t3 ht3 ok3 => ?_)
  have fr3 := fr.uI ht3 (by simp)
  refine w_aload rfl ?_
  refine w_getR (gT_8 hb _) ?_
  refine w_iload rfl ?_
  refine w_aload rfl ?_
  refine w_aastX (i := (z1).toNat) (raT' hb _) (wtT' hb _) (by omega) (by omega) (by have hl := fr3.len; omega) ok3 (fun t4 ht4 ok4 => ?_)
  have fr4 := fr3.uT ht4 (by simp)
  refine w_aload rfl ?_
  refine w_getR (gT_9 hb _) ?_
  refine w_aload rfl ?_
  refine w_getX0 (by have hl := fr4.len; omega) ok4 (fun z5 hz5 hl5 hh5 => ?_)
  refine w_iload rfl ?_
  refine w_iast (i := (z5).toNat) (aiT_10 hb _) rfl (by omega) (by omega) (aeT_10 hb _) ok4 (by omega) (fun t6 ht6 ok6 => ?_)
  have fr6 := fr4.uA ht6 (by simp)
  have w11 : tI t6 b 11 = tI t b 11 + 1 := by rw [ht6, tI_uA, ht4, tI_uT, ht3, tI_uI, if_pos ⟨rfl, rfl⟩]; omega
  have w10 : tI t6 b 10 = tI t b 10 := by rw [ht6, tI_uA, ht4, tI_uT, ht3, tI_uI, if_neg (by simp)]
  have w9 : ∀ i : Nat, tT t6 (b + 9) i = if i = (tI t b 11).toNat then some (92 + 4 * x) else tT t (b + 9) i := by
    intro i
    rw [ht6, tT_uA, ht4, tT_uT, ht3, tT_uI, hz1]
    by_cases q : i = (tI t b 11).toNat
    · rw [if_pos ⟨rfl, q⟩, if_pos q]
    · rw [if_neg (fun h => q h.2), if_neg q]
  have wk : z5 = (tx t x).1 := by
    rw [hz5]
    have h1 : tD t4 = tD t := by rw [ht4]; show tD t3 = _; rw [ht3]; rfl
    unfold tx
    rw [h1]
  have wA : ∀ c i, tA t6 c i = if c = b + 10 ∧ i = (tx t x).1.toNat then tI t b 11 else tA t c i := by
    intro c i
    rw [ht6, tA_uA, wk, hz1, ht4, tA_uT, ht3, tA_uI]
  have wq : ∀ j, tx t6 j = tx t j := by
    intro j
    unfold tx
    have h1 : tD t6 = tD t := by rw [ht6]; show tD t4 = _; rw [ht4]; show tD t3 = _; rw [ht3]; rfl
    rw [h1]
  refine w_aload rfl ?_
  refine w_getX0 (by have hl := fr6.len; omega) ok6 (fun z7 hz7 hl7 hh7 => ?_)
  have wz : z7 = (tx t x).1 := by rw [hz7, wq]
  refine w_ine (by omega) (fun h8 => ?_) (fun h8 => ?_)
  · skip
    refine w_step rfl ?_
    refine w_iload rfl ?_
    refine w_retI rfl ?_
    exact ⟨ok6, fr6, (by omega), (by first | exact ⟨w11, w9, fun i => by rw [wA]; simp, Or.inl ⟨by omega, fun i => by rw [wA, if_neg (by omega)]⟩⟩ | exact ⟨(i1_2.1 _ _ (by simp)).trans w11, fun i => (i1_2.2.2.1 _ (by simp) i).trans (w9 i), fun i => (i1_2.2.1 _ (by simp) i).trans (by rw [wA]; simp), Or.inr ⟨by omega, at_e i1_2 (fun s2 r v h => i1_3 s2 r v (by omega))⟩⟩)⟩
  refine w_push kc_0 ?_
  refine w_istore (lv' := [some (.ref b), some (.ref (92 + 4 * x)), some (.int (jI z1)), some (.int (jI 0))]) rfl ?_
  refine w_goto ?_
  have key1 : ∀ (n1 M1 : Nat) (s : Int) (t9 : TS), OK t9 → Fr [(b, 11), (b + 9, 101), (b + 10, 100), (b + 8, 100)] t t9 → (0 ≤ s) → (s ≤ tI t b 10) → (Fr [(b + 8, 100)] t6 t9) → (∀ s2 r v : Nat, (s2 : Int) < s → r < 4 → v < 2 → tA t9 (b + 8) ((s2 * 4 + r) * 2 + v) = dkC t6 b s2 r v) → 12 - s < (n1 : Int) → 60 * n1 + (1000) ≤ M1 → Rn (bX4_addText (EX FU (d + 5))) M1 1 [some (.ref b), some (.ref (92 + 4 * x)), some (.int (jI z1)), some (.int (jI s))] [] (mk t9) (PI (fun z t' => OK t' ∧ Fr [(b, 11), (b + 9, 101), (b + 10, 100), (b + 8, 100)] t t' ∧ (z = tI t b 11) ∧ (ATp t t' b x))) := by
    intro n1
    induction n1 with
    | zero => intro M1 s t9 ok9 fr9 i1_0 i1_1 i1_2 i1_3 v1 f1; exfalso; omega
    | succ n1 ih1 =>
      intro M1 s t9 ok9 fr9 i1_0 i1_1 i1_2 i1_3 v1 f1
      obtain ⟨M1, rfl⟩ : ∃ m, M1 = m + 60 := ⟨M1 - 60, by omega⟩
      have e10 : tI t9 b 10 = tI t b 10 := fr9.1 _ _ (by simp)
      refine w_step rfl ?_
      refine w_iload rfl ?_
      refine w_aload rfl ?_
      refine w_getI (gT_10 hb _) (feT_10 hb) ok9 (fun z10 hz10 hl10 hh10 => ?_)
      refine w_cge (by omega) (fun h11 => ?_) (fun h11 => ?_)
      · skip
        refine w_step rfl ?_
        refine w_iload rfl ?_
        refine w_retI rfl ?_
        exact ⟨ok9, fr9, (by omega), (by first | exact ⟨w11, w9, fun i => by rw [wA]; simp, Or.inl ⟨by omega, fun i => by rw [wA, if_neg (by omega)]⟩⟩ | exact ⟨(i1_2.1 _ _ (by simp)).trans w11, fun i => (i1_2.2.2.1 _ (by simp) i).trans (w9 i), fun i => (i1_2.2.1 _ (by simp) i).trans (by rw [wA]; simp), Or.inr ⟨by omega, at_e i1_2 (fun s2 r v h => i1_3 s2 r v (by omega))⟩⟩)⟩
      refine w_aload rfl ?_
      refine w_iload rfl ?_
      refine w_callV1V (ojT hb _).choose_spec rfl (e_X4_darken hb ok9 (GD.fr q0 fr9) (by omega) (by omega)) ?_
      rintro t12 ⟨ok12, fq12, hp12_0⟩
      have fr12 := fr9.then fq12 (by simp)
      have fdk := fq12
      have hdn := hp12_0
      refine w_iinc (lv' := [some (.ref b), some (.ref (92 + 4 * x)), some (.int (jI z1)), some (.int (jI (s + 1)))]) kc_1 rfl rfl ?_
      refine w_goto ?_
      exact ih1 _ (s + 1) t12 ok12 fr12 (by omega) (by omega) (i1_2.then fdk (by simp)) (at_s i1_0 i1_2 i1_3 hdn) (by omega) (by omega)
  exact key1 13 _ 0 t6 ok6 fr6 (by omega) (by omega) (Fr.rf _ _) (fun s2 r v h => by omega) (by omega) (by omega)
end
section
def spR (t : TS) (s : Nat) (h u : Int) : Int := spF2 (LA t 69) (RA t 69) s h u
theorem so_0 {t : TS} {s : Nat} {u : Int} (hu : 0 ≤ u ∧ u ≤ 1) : spR t s 0 u = if u.toNat = 0 then tA t 69 (30 + 5 * s) else tA t 69 (31 + 5 * s) := by
  unfold spR spF2 LA RA
  have : u = 0 ∨ u = 1 := by omega
  rcases this with rfl | rfl <;> rfl
theorem spR_fr {S : List (Nat × Nat)} {t u : TS} (f : Fr S t u) (h : (69, 100) ∉ S) (s : Nat) (a v : Int) : spR u s a v = spR t s a v := by
  have e := f.2.1 _ h
  unfold spR spF2 LA RA
  rw [e, e]
theorem so_1 {t : TS} {s : Nat} {u : Int} (hu : 0 ≤ u ∧ u ≤ 1) : spR t s 1 u = if 1 - u.toNat = 0 then tA t 69 (30 + 5 * s) else tA t 69 (31 + 5 * s) := by
  unfold spR spF2 LA RA
  have : u = 0 ∨ u = 1 := by omega
  rcases this with rfl | rfl <;> rfl
theorem exR_mv {t u : TS} {c : Nat} (h : ∀ i, (i = 4 ∨ 89 ≤ i) → tA u c i = tA t c i) (q d f0 f1 f2 : Int) : exR u c q d f0 f1 f2 = exR t c q d f0 f1 f2 := by
  have e1 : rkA u c = rkA t c := funext (fun k => h _ (by omega))
  have e2 : ∀ k, rcA u c k = rcA t c k := fun k => funext (fun i => h _ (by omega))
  have e3 : ∀ k, rnA u c k = rnA t c k := fun k => by unfold rnA; rw [h _ (by omega)]
  have e4 : ∀ q, cuA u c q = cuA t c q := fun q => by unfold cuA; rw [e1, h 4 (by decide)]
  unfold exR
  rw [e4, e2, e3]
theorem dkA_fr {S : List (Nat × Nat)} {t u : TS} (f : Fr S t u) (h : (69, 100) ∉ S) (s : Nat) (p r : Int) : dkA u 69 s p r = dkA t 69 s p r := by
  have e := f.2.1 _ h
  unfold dkA hvA
  rw [exR_mv (fun i _ => e i), e, e, e]
theorem ex_0 {t : TS} {c : Nat} {q d f0 f1 f2 : Int} (h : cuA t c q = -1) : exR t c q d f0 f1 f2 = d := by
  unfold exR
  rw [if_pos h]
theorem ev_x {t u : TS} {q d f0 f1 f2 x z : Int} (h : ∀ i, tA u 69 i = tA t 69 i) (h0 : tA u 82 0 = f0) (h1 : tA u 82 1 = f1) (h2 : tA u 82 2 = f2) (hx : x = cuA t 69 q) (h3 : 0 ≤ x) (hz : z = evR (rcA u 69 x.toNat) (tA u 82 0) (tA u 82 1) (tA u 82 2) (rnA u 69 x.toNat)) : z = exR t 69 q d f0 f1 f2 := by
  have e2 : ∀ k, rcA u 69 k = rcA t 69 k := fun k => funext (fun i => h _)
  have e3 : ∀ k, rnA u 69 k = rnA t 69 k := fun k => by unfold rnA; rw [h _]
  unfold exR
  rw [← hx, if_neg (by omega), hz, h0, h1, h2, e2, e3]
theorem rp_fr {S : List (Nat × Nat)} {t u : TS} (f : Fr S t u) (h : (69, 100) ∉ S) (h4 : (68, 4) ∉ S) : RPt u = RPt t := by
  have e := f.2.1 _ h
  unfold RPt
  rw [f.1 _ _ h4]
  congr 1
  · funext s; rw [e]
  · funext s; rw [e]
theorem aw_fr {S : List (Nat × Nat)} {t u : TS} (a : AWp t) (f : Fr S t u) (h : (69, 100) ∉ S) (h4 : (68, 4) ∉ S) : AWp u := by
  unfold AWp
  rw [f.1 _ _ h4, f.2.1 _ h]
  exact a
theorem gr_c {t u v : TS} {y : GPU} {r : Int} (h : GRp t u y) (g : GRp u v (lyF (tA u 69 1).toNat (OA u 69) r (RPt u))) : GRp t v (lyF (tA t 69 1).toNat (OA t 69) r y) := by
  obtain ⟨a1, a2, a3, a4, a5⟩ := h
  obtain ⟨c1, c2, c3, c4, c5⟩ := g
  refine ⟨?_, c2, c3.trans a3, c4.trans a4, c5.trans a5⟩
  rw [c1, a1, a3, a4]
set_option maxRecDepth 100000 in
set_option maxHeartbeats 4000000 in
theorem e_X9_counts {d : Nat} {t : TS} {k : Int}  (ok : OK t) (q0 : 0 ≤ k) (q1 : k ≤ 2) : CI (EX FU (d + 1)) 202 [.ref 68, .int (jI k)] (mk t) (fun z t' => t = t' ∧ (-1 ≤ z) ∧ (z ≤ 13) ∧ (z < tA t 69 4 ∨ z = -1) ∧ (z = cuA t 69 k)) := by
  refine CI_ent (d := d + 0) (Bk := bX9_counts) (nL := 3) rfl rfl rfl (Nat.le_of_ble_eq_true rfl) ?_
  show Rn _ 1000000 0 [some (.ref 68), some (.int (jI k)), none] [] _ _
  have hn0 := (ok.a (ax_69 nr_1)).1
  have hn1 := (ok.a (ax_69 nr_1)).2
  have hx0 := (ok.a (ax_69 nr_4)).1
  have hx1 := (ok.a (ax_69 nr_4)).2
  refine w_step rfl ?_
  refine w_aload rfl ?_
  refine w_getR (g_68_0 _) ?_
  refine w_push kc_4 ?_
  refine w_iald (i := 4) (ai_69 _) (by omega) (by omega) (ax_69 nr_4) ok (fun z1 hz1 hl1 hh1 => ?_)
  refine w_push kc_1 ?_
  refine w_sub ?_
  refine w_istore (lv' := [some (.ref 68), some (.int (jI k)), some (.int (jI (z1 - 1)))]) rfl ?_
  refine w_goto ?_
  have key1 : ∀ (n1 M1 : Nat) (x : Int), (-1 ≤ x) → (x ≤ tA t 69 4 - 1) → (cuA t 69 k = coF (rkA t 69) k (x + 1).toNat) → x + 1 < (n1 : Int) → 60 * n1 + (1000) ≤ M1 → Rn (bX9_counts (EX FU (d + 0))) M1 1 [some (.ref 68), some (.int (jI k)), some (.int (jI x))] [] (mk t) (PI (fun z t' => t = t' ∧ (-1 ≤ z) ∧ (z ≤ 13) ∧ (z < tA t 69 4 ∨ z = -1) ∧ (z = cuA t 69 k))) := by
    intro n1
    induction n1 with
    | zero => intro M1 x i1_0 i1_1 i1_2 v1 f1; exfalso; omega
    | succ n1 ih1 =>
      intro M1 x i1_0 i1_1 i1_2 v1 f1
      obtain ⟨M1, rfl⟩ : ∃ m, M1 = m + 60 := ⟨M1 - 60, by omega⟩
      refine w_step rfl ?_
      refine w_iload rfl ?_
      refine w_ilt (by omega) (fun h2 => ?_) (fun h2 => ?_)
      · skip
        refine w_step rfl ?_
        refine w_push kc_m1 ?_
        refine w_retI rfl ?_
        exact ⟨rfl, (by omega), (by omega), (by omega), (by rw [i1_2]; first | exact (coF_h (by omega) (by rw [← ez]; omega)).symm | (rw [show (x + 1).toNat = 0 by omega]; rfl))⟩
      refine w_aload rfl ?_
      refine w_getR (g_68_0 _) ?_
      refine w_push kc_89 ?_
      refine w_push kc_2 ?_
      refine w_iload rfl ?_
      refine w_mul ?_
      refine w_add ?_
      refine w_iald (i := ((89 + (2 * x))).toNat) (ai_69 _) (by omega) (by omega) (ax_69 (nr_T0 (s := x.toNat) (by omega))) ok (fun z3 hz3 hl3 hh3 => ?_)
      have ez : z3 = rkA t 69 x.toNat := by rw [hz3, show (89 + 2 * x).toNat = 89 + 2 * x.toNat by omega]; rfl
      refine w_push kc_1000 ?_
      refine w_div (by omega) ?_
      refine w_iload rfl ?_
      refine w_cne (by omega) (fun h4 => ?_) (fun h4 => ?_)
      · skip
        refine w_step rfl ?_
        refine w_iinc (lv' := [some (.ref 68), some (.int (jI k)), some (.int (jI (x + (-1))))]) kc_m1 rfl rfl ?_
        refine w_goto ?_
        exact ih1 _ (x + (-1))  (by omega) (by omega) (by rw [i1_2, show x + (-1) + 1 = x by omega]; exact coF_s (by omega) (by rw [← ez]; omega)) (by omega) (by omega)
      refine w_iload rfl ?_
      refine w_retI rfl ?_
      exact ⟨rfl, (by omega), (by omega), (by omega), (by rw [i1_2]; first | exact (coF_h (by omega) (by rw [← ez]; omega)).symm | (rw [show (x + 1).toNat = 0 by omega]; rfl))⟩
  exact key1 16 _ (z1 - 1)  (by omega) (by omega) (by unfold cuA; congr 1; omega) (by omega) (by omega)
set_option maxRecDepth 100000 in
set_option maxHeartbeats 4000000 in
theorem e_X9_two {d : Nat} {t : TS} {s x y : Int}  (ok : OK t) (q0 : -2147483648 ≤ s) (q1 : s ≤ 2147483647) (q2 : -2147483648 ≤ x) (q3 : x ≤ 2147483647) (q4 : -2147483648 ≤ y) (q5 : y ≤ 2147483647) : CI (EX FU (d + 1)) 204 [.int (jI s), .int (jI x), .int (jI y)] (mk t) (fun z t' => t = t' ∧ (-2147483648 ≤ z) ∧ (z ≤ 2147483647) ∧ (z = twF s x y)) := by
  refine CI_ent (d := d + 0) (Bk := bX9_two) (nL := 3) rfl rfl rfl (Nat.le_of_ble_eq_true rfl) ?_
  show Rn _ 1000000 0 [some (.int (jI s)), some (.int (jI x)), some (.int (jI y))] [] _ _
  refine w_step rfl ?_
  refine w_iload rfl ?_
  have hs1 : s = (-8) ∨ s = (-7) ∨ s = (-6) ∨ s = (-5) ∨ s = (-4) ∨ s = (-3) ∨ s = (-2) ∨ s = (-1) ∨ (s < (-8) ∨ (-8) + 8 ≤ s) := (by omega)
  rcases hs1 with hs1 | hs1 | hs1 | hs1 | hs1 | hs1 | hs1 | hs1 | hs1
  · refine w_sw (n := 19) (tsw_at hs1 (by decide)) ?_
    refine w_step rfl ?_
    refine w_iload rfl ?_
    refine w_iload rfl ?_
    refine w_mulW (fun z2 hz2 hl2 hh2 => ?_)
    refine w_retI rfl ?_
    exact ⟨rfl, (by omega), (by omega), (by first | exact tz_o (by assumption) (by omega) | exact tz_a (by assumption) (by omega) | exact tz_l (by assumption) (by omega) | exact tz_e (by assumption) (by omega) | exact tz_g (by assumption) (by omega) | exact tz_p (by assumption) (by omega) | exact tz_m (by assumption) (by omega) | exact tz_t (by assumption) (by omega) | exact tz_d0 (by omega) (by omega) rfl | exact tz_d (by omega) (by omega) (by assumption) | (exfalso; omega))⟩
  · refine w_sw (n := 18) (tsw_at hs1 (by decide)) ?_
    refine w_step rfl ?_
    refine w_iload rfl ?_
    refine w_iload rfl ?_
    refine w_subW (fun z3 hz3 hl3 hh3 => ?_)
    refine w_retI rfl ?_
    exact ⟨rfl, (by omega), (by omega), (by first | exact tz_o (by assumption) (by omega) | exact tz_a (by assumption) (by omega) | exact tz_l (by assumption) (by omega) | exact tz_e (by assumption) (by omega) | exact tz_g (by assumption) (by omega) | exact tz_p (by assumption) (by omega) | exact tz_m (by assumption) (by omega) | exact tz_t (by assumption) (by omega) | exact tz_d0 (by omega) (by omega) rfl | exact tz_d (by omega) (by omega) (by assumption) | (exfalso; omega))⟩
  · refine w_sw (n := 17) (tsw_at hs1 (by decide)) ?_
    refine w_step rfl ?_
    refine w_iload rfl ?_
    refine w_iload rfl ?_
    refine w_addW (fun z4 hz4 hl4 hh4 => ?_)
    refine w_retI rfl ?_
    exact ⟨rfl, (by omega), (by omega), (by first | exact tz_o (by assumption) (by omega) | exact tz_a (by assumption) (by omega) | exact tz_l (by assumption) (by omega) | exact tz_e (by assumption) (by omega) | exact tz_g (by assumption) (by omega) | exact tz_p (by assumption) (by omega) | exact tz_m (by assumption) (by omega) | exact tz_t (by assumption) (by omega) | exact tz_d0 (by omega) (by omega) rfl | exact tz_d (by omega) (by omega) (by assumption) | (exfalso; omega))⟩
  · refine w_sw (n := 14) (tsw_at hs1 (by decide)) ?_
    refine w_step rfl ?_
    refine w_iload rfl ?_
    refine w_iload rfl ?_
    refine w_cle (by omega) (fun h5 => ?_) (fun h5 => ?_)
    · skip
      refine w_step rfl ?_
      refine w_push kc_0 ?_
      refine w_goto ?_
      refine w_step rfl ?_
      refine w_retI rfl ?_
      exact ⟨rfl, (by omega), (by omega), (by first | exact tz_o (by assumption) (by omega) | exact tz_a (by assumption) (by omega) | exact tz_l (by assumption) (by omega) | exact tz_e (by assumption) (by omega) | exact tz_g (by assumption) (by omega) | exact tz_p (by assumption) (by omega) | exact tz_m (by assumption) (by omega) | exact tz_t (by assumption) (by omega) | exact tz_d0 (by omega) (by omega) rfl | exact tz_d (by omega) (by omega) (by assumption) | (exfalso; omega))⟩
    refine w_push kc_1 ?_
    refine w_goto ?_
    refine w_step rfl ?_
    refine w_retI rfl ?_
    exact ⟨rfl, (by omega), (by omega), (by first | exact tz_o (by assumption) (by omega) | exact tz_a (by assumption) (by omega) | exact tz_l (by assumption) (by omega) | exact tz_e (by assumption) (by omega) | exact tz_g (by assumption) (by omega) | exact tz_p (by assumption) (by omega) | exact tz_m (by assumption) (by omega) | exact tz_t (by assumption) (by omega) | exact tz_d0 (by omega) (by omega) rfl | exact tz_d (by omega) (by omega) (by assumption) | (exfalso; omega))⟩
  · refine w_sw (n := 11) (tsw_at hs1 (by decide)) ?_
    refine w_step rfl ?_
    refine w_iload rfl ?_
    refine w_iload rfl ?_
    refine w_cne (by omega) (fun h6 => ?_) (fun h6 => ?_)
    · skip
      refine w_step rfl ?_
      refine w_push kc_0 ?_
      refine w_goto ?_
      refine w_step rfl ?_
      refine w_retI rfl ?_
      exact ⟨rfl, (by omega), (by omega), (by first | exact tz_o (by assumption) (by omega) | exact tz_a (by assumption) (by omega) | exact tz_l (by assumption) (by omega) | exact tz_e (by assumption) (by omega) | exact tz_g (by assumption) (by omega) | exact tz_p (by assumption) (by omega) | exact tz_m (by assumption) (by omega) | exact tz_t (by assumption) (by omega) | exact tz_d0 (by omega) (by omega) rfl | exact tz_d (by omega) (by omega) (by assumption) | (exfalso; omega))⟩
    refine w_push kc_1 ?_
    refine w_goto ?_
    refine w_step rfl ?_
    refine w_retI rfl ?_
    exact ⟨rfl, (by omega), (by omega), (by first | exact tz_o (by assumption) (by omega) | exact tz_a (by assumption) (by omega) | exact tz_l (by assumption) (by omega) | exact tz_e (by assumption) (by omega) | exact tz_g (by assumption) (by omega) | exact tz_p (by assumption) (by omega) | exact tz_m (by assumption) (by omega) | exact tz_t (by assumption) (by omega) | exact tz_d0 (by omega) (by omega) rfl | exact tz_d (by omega) (by omega) (by assumption) | (exfalso; omega))⟩
  · refine w_sw (n := 8) (tsw_at hs1 (by decide)) ?_
    refine w_step rfl ?_
    refine w_iload rfl ?_
    refine w_iload rfl ?_
    refine w_cge (by omega) (fun h7 => ?_) (fun h7 => ?_)
    · skip
      refine w_step rfl ?_
      refine w_push kc_0 ?_
      refine w_goto ?_
      refine w_step rfl ?_
      refine w_retI rfl ?_
      exact ⟨rfl, (by omega), (by omega), (by first | exact tz_o (by assumption) (by omega) | exact tz_a (by assumption) (by omega) | exact tz_l (by assumption) (by omega) | exact tz_e (by assumption) (by omega) | exact tz_g (by assumption) (by omega) | exact tz_p (by assumption) (by omega) | exact tz_m (by assumption) (by omega) | exact tz_t (by assumption) (by omega) | exact tz_d0 (by omega) (by omega) rfl | exact tz_d (by omega) (by omega) (by assumption) | (exfalso; omega))⟩
    refine w_push kc_1 ?_
    refine w_goto ?_
    refine w_step rfl ?_
    refine w_retI rfl ?_
    exact ⟨rfl, (by omega), (by omega), (by first | exact tz_o (by assumption) (by omega) | exact tz_a (by assumption) (by omega) | exact tz_l (by assumption) (by omega) | exact tz_e (by assumption) (by omega) | exact tz_g (by assumption) (by omega) | exact tz_p (by assumption) (by omega) | exact tz_m (by assumption) (by omega) | exact tz_t (by assumption) (by omega) | exact tz_d0 (by omega) (by omega) rfl | exact tz_d (by omega) (by omega) (by assumption) | (exfalso; omega))⟩
  · refine w_sw (n := 5) (tsw_at hs1 (by decide)) ?_
    refine w_step rfl ?_
    refine w_iload rfl ?_
    refine w_ieq (by omega) (fun h8 => ?_) (fun h8 => ?_)
    · skip
      refine w_step rfl ?_
      refine w_push kc_0 ?_
      refine w_goto ?_
      refine w_step rfl ?_
      refine w_retI rfl ?_
      exact ⟨rfl, (by omega), (by omega), (by first | exact tz_o (by assumption) (by omega) | exact tz_a (by assumption) (by omega) | exact tz_l (by assumption) (by omega) | exact tz_e (by assumption) (by omega) | exact tz_g (by assumption) (by omega) | exact tz_p (by assumption) (by omega) | exact tz_m (by assumption) (by omega) | exact tz_t (by assumption) (by omega) | exact tz_d0 (by omega) (by omega) rfl | exact tz_d (by omega) (by omega) (by assumption) | (exfalso; omega))⟩
    refine w_iload rfl ?_
    refine w_ieq (by omega) (fun h9 => ?_) (fun h9 => ?_)
    · skip
      refine w_step rfl ?_
      refine w_push kc_0 ?_
      refine w_goto ?_
      refine w_step rfl ?_
      refine w_retI rfl ?_
      exact ⟨rfl, (by omega), (by omega), (by first | exact tz_o (by assumption) (by omega) | exact tz_a (by assumption) (by omega) | exact tz_l (by assumption) (by omega) | exact tz_e (by assumption) (by omega) | exact tz_g (by assumption) (by omega) | exact tz_p (by assumption) (by omega) | exact tz_m (by assumption) (by omega) | exact tz_t (by assumption) (by omega) | exact tz_d0 (by omega) (by omega) rfl | exact tz_d (by omega) (by omega) (by assumption) | (exfalso; omega))⟩
    refine w_push kc_1 ?_
    refine w_goto ?_
    refine w_step rfl ?_
    refine w_retI rfl ?_
    exact ⟨rfl, (by omega), (by omega), (by first | exact tz_o (by assumption) (by omega) | exact tz_a (by assumption) (by omega) | exact tz_l (by assumption) (by omega) | exact tz_e (by assumption) (by omega) | exact tz_g (by assumption) (by omega) | exact tz_p (by assumption) (by omega) | exact tz_m (by assumption) (by omega) | exact tz_t (by assumption) (by omega) | exact tz_d0 (by omega) (by omega) rfl | exact tz_d (by omega) (by omega) (by assumption) | (exfalso; omega))⟩
  · refine w_sw (n := 1) (tsw_at hs1 (by decide)) ?_
    refine w_step rfl ?_
    refine w_iload rfl ?_
    refine w_ine (by omega) (fun h10 => ?_) (fun h10 => ?_)
    · skip
      refine w_step rfl ?_
      refine w_push kc_1 ?_
      refine w_goto ?_
      refine w_step rfl ?_
      refine w_retI rfl ?_
      exact ⟨rfl, (by omega), (by omega), (by first | exact tz_o (by assumption) (by omega) | exact tz_a (by assumption) (by omega) | exact tz_l (by assumption) (by omega) | exact tz_e (by assumption) (by omega) | exact tz_g (by assumption) (by omega) | exact tz_p (by assumption) (by omega) | exact tz_m (by assumption) (by omega) | exact tz_t (by assumption) (by omega) | exact tz_d0 (by omega) (by omega) rfl | exact tz_d (by omega) (by omega) (by assumption) | (exfalso; omega))⟩
    refine w_iload rfl ?_
    refine w_ieq (by omega) (fun h11 => ?_) (fun h11 => ?_)
    · skip
      refine w_step rfl ?_
      refine w_push kc_0 ?_
      refine w_goto ?_
      refine w_step rfl ?_
      refine w_retI rfl ?_
      exact ⟨rfl, (by omega), (by omega), (by first | exact tz_o (by assumption) (by omega) | exact tz_a (by assumption) (by omega) | exact tz_l (by assumption) (by omega) | exact tz_e (by assumption) (by omega) | exact tz_g (by assumption) (by omega) | exact tz_p (by assumption) (by omega) | exact tz_m (by assumption) (by omega) | exact tz_t (by assumption) (by omega) | exact tz_d0 (by omega) (by omega) rfl | exact tz_d (by omega) (by omega) (by assumption) | (exfalso; omega))⟩
    refine w_goto ?_
    refine w_step rfl ?_
    refine w_push kc_1 ?_
    refine w_goto ?_
    refine w_step rfl ?_
    refine w_retI rfl ?_
    exact ⟨rfl, (by omega), (by omega), (by first | exact tz_o (by assumption) (by omega) | exact tz_a (by assumption) (by omega) | exact tz_l (by assumption) (by omega) | exact tz_e (by assumption) (by omega) | exact tz_g (by assumption) (by omega) | exact tz_p (by assumption) (by omega) | exact tz_m (by assumption) (by omega) | exact tz_t (by assumption) (by omega) | exact tz_d0 (by omega) (by omega) rfl | exact tz_d (by omega) (by omega) (by assumption) | (exfalso; omega))⟩
  · refine w_sw (n := 20) (tsw_df (m := 8) rfl (by omega) (by omega)) ?_
    refine w_step rfl ?_
    refine w_iload rfl ?_
    refine w_ine (by omega) (fun h12 => ?_) (fun h12 => ?_)
    · skip
      refine w_step rfl ?_
      refine w_iload rfl ?_
      refine w_iload rfl ?_
      refine w_divG (by omega) (fun z13 hz13 hl13 hh13 => ?_)
      refine w_goto ?_
      refine w_step rfl ?_
      refine w_retI rfl ?_
      exact ⟨rfl, (by omega), (by omega), (by first | exact tz_o (by assumption) (by omega) | exact tz_a (by assumption) (by omega) | exact tz_l (by assumption) (by omega) | exact tz_e (by assumption) (by omega) | exact tz_g (by assumption) (by omega) | exact tz_p (by assumption) (by omega) | exact tz_m (by assumption) (by omega) | exact tz_t (by assumption) (by omega) | exact tz_d0 (by omega) (by omega) rfl | exact tz_d (by omega) (by omega) (by assumption) | (exfalso; omega))⟩
    refine w_push kc_0 ?_
    refine w_goto ?_
    refine w_step rfl ?_
    refine w_retI rfl ?_
    exact ⟨rfl, (by omega), (by omega), (by first | exact tz_o (by assumption) (by omega) | exact tz_a (by assumption) (by omega) | exact tz_l (by assumption) (by omega) | exact tz_e (by assumption) (by omega) | exact tz_g (by assumption) (by omega) | exact tz_p (by assumption) (by omega) | exact tz_m (by assumption) (by omega) | exact tz_t (by assumption) (by omega) | exact tz_d0 (by omega) (by omega) rfl | exact tz_d (by omega) (by omega) (by assumption) | (exfalso; omega))⟩
set_option maxRecDepth 100000 in
set_option maxHeartbeats 4000000 in
theorem e_X9_worksOut {d : Nat} {t : TS} {x : Int}  (ok : OK t) (q0 : WF t 69) (q1 : NZ t 69) (q2 : 0 ≤ x) (q3 : x < tA t 69 4) : CI (EX FU (d + 2)) 205 [.ref 68, .int (jI x)] (mk t) (fun z t' => OK t' ∧ Fr [(81, 100)] t t' ∧ (-2147483648 ≤ z) ∧ (z ≤ 2147483647) ∧ (z = evR (rcA t 69 x.toNat) (tA t 82 0) (tA t 82 1) (tA t 82 2) (rnA t 69 x.toNat))) := by
  refine CI_ent (d := d + 1) (Bk := bX9_worksOut) (nL := 6) rfl rfl rfl (Nat.le_of_ble_eq_true rfl) ?_
  show Rn _ 1000000 0 [some (.ref 68), some (.int (jI x)), none, none, none, none] [] _ _
  have fr : Fr [(81, 100)] t t := Fr.rf _ _
  have hn0 := (ok.a (ax_69 nr_1)).1
  have hn1 := (ok.a (ax_69 nr_1)).2
  have hx1 := (ok.a (ax_69 nr_4)).2
  obtain ⟨hm, hw⟩ := q0 x.toNat (by omega)
  have hw0 : wfC (rcA t 69 x.toNat) (rnA t 69 x.toNat) := hw
  have h1n := q1 x.toNat (by omega)
  generalize hF : (fun j : Nat => tA t 69 (117 + 96 * x.toNat + j)) = F at hw
  have hF2 : rcA t 69 x.toNat = F := hF
  have hi : (89 + 2 * x).toNat = 89 + 2 * x.toNat := by omega
  refine w_step rfl ?_
  refine w_push kc_0 ?_
  refine w_istore (lv' := [some (.ref 68), some (.int (jI x)), some (.int (jI 0)), none, none, none]) rfl ?_
  refine w_aload rfl ?_
  refine w_getR (g_68_0 _) ?_
  refine w_push kc_89 ?_
  refine w_push kc_2 ?_
  refine w_iload rfl ?_
  refine w_mul ?_
  refine w_add ?_
  refine w_iald (i := ((89 + (2 * x))).toNat) (ai_69 _) (by omega) (by omega) (ax_69 (nr_T0 (s := x.toNat) (by omega))) ok (fun z1 hz1 hl1 hh1 => ?_)
  rw [hi] at hz1
  refine w_push kc_1000 ?_
  refine w_rem (by omega) ?_
  refine w_istore (lv' := [some (.ref 68), some (.int (jI x)), some (.int (jI 0)), some (.int (jI (z1 % 1000))), none, none]) rfl ?_
  refine w_push kc_0 ?_
  refine w_istore (lv' := [some (.ref 68), some (.int (jI x)), some (.int (jI 0)), some (.int (jI (z1 % 1000))), some (.int (jI 0)), none]) rfl ?_
  refine w_goto ?_
  have key1 : ∀ (n1 M1 : Nat) (top : Int) (k : Int) (o5 : Option Int) (t2 : TS), OK t2 → Fr [(81, 100)] t t2 → WF t2 69 → (0 ≤ k) → (k ≤ 96) → (top = depF F k.toNat) → (0 ≤ top) → (top ≤ k) → (WEp t t2 x top k) → (k ≤ tA t 69 (89 + 2 * x.toNat) % 1000) → 97 - k < (n1 : Int) → 60 * n1 + (1000) ≤ M1 → Rn (bX9_worksOut (EX FU (d + 1))) M1 1 [some (.ref 68), some (.int (jI x)), some (.int (jI top)), some (.int (jI (z1 % 1000))), some (.int (jI k)), dv o5] [] (mk t2) (PI (fun z t' => OK t' ∧ Fr [(81, 100)] t t' ∧ (-2147483648 ≤ z) ∧ (z ≤ 2147483647) ∧ (z = evR (rcA t 69 x.toNat) (tA t 82 0) (tA t 82 1) (tA t 82 2) (rnA t 69 x.toNat)))) := by
    intro n1
    induction n1 with
    | zero => intro M1 top k o5 t2 ok2 fr2 wf2 i1_0 i1_1 i1_2 i1_3 i1_4 i1_5 i1_6 v1 f1; exfalso; omega
    | succ n1 ih1 =>
      intro M1 top k o5 t2 ok2 fr2 wf2 i1_0 i1_1 i1_2 i1_3 i1_4 i1_5 i1_6 v1 f1
      obtain ⟨M1, rfl⟩ : ∃ m, M1 = m + 60 := ⟨M1 - 60, by omega⟩
      refine w_step rfl ?_
      refine w_iload rfl ?_
      refine w_iload rfl ?_
      refine w_cge (by omega) (fun h3 => ?_) (fun h3 => ?_)
      · skip
        refine w_step rfl ?_
        refine w_aload rfl ?_
        refine w_getR (g_68_24 _) ?_
        refine w_push kc_0 ?_
        refine w_iald (i := 0) (ai_81 _) (by omega) (by omega) (ae_81 _) ok2 (fun z4 hz4 hl4 hh4 => ?_)
        refine w_retI rfl ?_
        exact ⟨ok2, fr2, (by omega), (by omega), (by rw [hz4]; exact we_e i1_5 (by omega) hw0 h1n)⟩
      refine w_aload rfl ?_
      refine w_getR (g_68_0 _) ?_
      refine w_push kc_117 ?_
      refine w_push kc_96 ?_
      refine w_iload rfl ?_
      refine w_mul ?_
      refine w_add ?_
      refine w_iload rfl ?_
      refine w_add ?_
      refine w_iald (i := (((117 + (96 * x)) + k)).toNat) (ai_69 _) (by omega) (by omega) (ax_69 (nr_C (by omega))) ok2 (fun z5 hz5 hl5 hh5 => ?_)
      have ef : z5 = F (k).toNat := by
        rw [hz5, fr2.2.1 69 (by simp), ← hF]
        congr 1
        omega
      have ec : z5 = rcA t 69 x.toNat k.toNat := by rw [hF2]; exact ef
      have ed := depS F (k := k) i1_0
      have hw1 := hw k.toNat (by omega)
      refine w_istore (lv' := [some (.ref 68), some (.int (jI x)), some (.int (jI top)), some (.int (jI (z1 % 1000))), some (.int (jI k)), some (.int (jI z5))]) rfl ?_
      refine w_iload rfl ?_
      refine w_ilt (by omega) (fun h6 => ?_) (fun h6 => ?_)
      · skip
        refine w_step rfl ?_
        refine w_iload rfl ?_
        refine w_push kc_m10 ?_
        refine w_cne (by omega) (fun h7 => ?_) (fun h7 => ?_)
        · skip
          refine w_step rfl ?_
          refine w_iinc (lv' := [some (.ref 68), some (.int (jI x)), some (.int (jI (top + (-1)))), some (.int (jI (z1 % 1000))), some (.int (jI k)), some (.int (jI z5))]) kc_m1 rfl rfl ?_
          refine w_aload rfl ?_
          refine w_getR (g_68_24 _) ?_
          refine w_iload rfl ?_
          refine w_push kc_1 ?_
          refine w_sub ?_
          refine w_iload rfl ?_
          refine w_aload rfl ?_
          refine w_getR (g_68_24 _) ?_
          refine w_iload rfl ?_
          refine w_push kc_1 ?_
          refine w_sub ?_
          refine w_iald (i := (((top + (-1)) - 1)).toNat) (ai_81 _) (by omega) (by omega) (ae_81 _) ok2 (fun z8 hz8 hl8 hh8 => ?_)
          have e4 : z8 = tA t2 81 (top - 2).toNat := by rw [hz8, show ((top + (-1)) - 1) = top - 2 by omega]
          refine w_aload rfl ?_
          refine w_getR (g_68_24 _) ?_
          refine w_iload rfl ?_
          refine w_iald (i := ((top + (-1))).toNat) (ai_81 _) (by omega) (by omega) (ae_81 _) ok2 (fun z9 hz9 hl9 hh9 => ?_)
          have e5 : z9 = tA t2 81 (top - 1).toNat := by rw [hz9, show (top + (-1)) = top - 1 by omega]
          refine w_callS3I rfl (e_X9_two ok2 (by omega) (by omega) (by omega) (by omega) (by omega) (by omega)) ?_
          rintro z10 t10 ⟨rfl, hp10_0, hp10_1, hp10_2⟩
          refine w_iast (i := (((top + (-1)) - 1)).toNat) (ai_81 _) rfl (by omega) (by omega) (ae_81 _) ok2 (by omega) (fun t11 ht11 ok11 => ?_)
          have fr11 := fr2.uA ht11 (by simp)
          have wf11 := wf2.uAo ht11 (by decide)
          refine w_goto ?_
          refine w_step rfl ?_
          refine w_iinc (lv' := [some (.ref 68), some (.int (jI x)), some (.int (jI (top + (-1)))), some (.int (jI (z1 % 1000))), some (.int (jI (k + 1))), some (.int (jI z5))]) kc_1 rfl rfl ?_
          refine w_goto ?_
          exact ih1 _ (top + (-1)) (k + 1) (some z5) t11 ok11 fr11 wf11 (by omega) (by omega) (by omega) (by omega) (by omega) (by first | exact we_n i1_5 i1_0 ec (by omega) (by first | exact Or.inl ⟨by omega, rfl⟩ | exact Or.inr ⟨by omega, by omega, e2⟩ | omega) ht11 | exact we_t i1_5 i1_0 ec (by omega) e3 (by omega) ht11 | exact we_2 i1_5 i1_0 ec (by omega) e4 e5 hp10_2 (by rw [ht11, show top + (-1) - 1 = top - 2 by omega]) (by omega) | omega) (by omega) (by omega) (by omega)
        refine w_aload rfl ?_
        refine w_getR (g_68_24 _) ?_
        refine w_iload rfl ?_
        refine w_push kc_1 ?_
        refine w_sub ?_
        refine w_aload rfl ?_
        refine w_getR (g_68_24 _) ?_
        refine w_iload rfl ?_
        refine w_push kc_1 ?_
        refine w_sub ?_
        refine w_iald (i := ((top - 1)).toNat) (ai_81 _) (by omega) (by omega) (ae_81 _) ok2 (fun z12 hz12 hl12 hh12 => ?_)
        have e3 : z12 = tA t2 81 (top - 1).toNat := by rw [hz12]
        refine w_ine (by omega) (fun h13 => ?_) (fun h13 => ?_)
        · skip
          refine w_step rfl ?_
          refine w_push kc_0 ?_
          refine w_goto ?_
          refine w_step rfl ?_
          refine w_iast (i := ((top - 1)).toNat) (ai_81 _) rfl (by omega) (by omega) (ae_81 _) ok2 (by omega) (fun t14 ht14 ok14 => ?_)
          have fr14 := fr2.uA ht14 (by simp)
          have wf14 := wf2.uAo ht14 (by decide)
          refine w_goto ?_
          refine w_step rfl ?_
          refine w_iinc (lv' := [some (.ref 68), some (.int (jI x)), some (.int (jI top)), some (.int (jI (z1 % 1000))), some (.int (jI (k + 1))), some (.int (jI z5))]) kc_1 rfl rfl ?_
          refine w_goto ?_
          exact ih1 _ top (k + 1) (some z5) t14 ok14 fr14 wf14 (by omega) (by omega) (by omega) (by omega) (by omega) (by first | exact we_n i1_5 i1_0 ec (by omega) (by first | exact Or.inl ⟨by omega, rfl⟩ | exact Or.inr ⟨by omega, by omega, e2⟩ | omega) ht14 | exact we_t i1_5 i1_0 ec (by omega) e3 (by omega) ht14 | exact we_2 i1_5 i1_0 ec (by omega) e4 e5 hp99qq_2 (by rw [ht14, show top + (-1) - 1 = top - 2 by omega]) (by omega) | omega) (by omega) (by omega) (by omega)
        refine w_push kc_1 ?_
        refine w_goto ?_
        refine w_step rfl ?_
        refine w_iast (i := ((top - 1)).toNat) (ai_81 _) rfl (by omega) (by omega) (ae_81 _) ok2 (by omega) (fun t15 ht15 ok15 => ?_)
        have fr15 := fr2.uA ht15 (by simp)
        have wf15 := wf2.uAo ht15 (by decide)
        refine w_goto ?_
        refine w_step rfl ?_
        refine w_iinc (lv' := [some (.ref 68), some (.int (jI x)), some (.int (jI top)), some (.int (jI (z1 % 1000))), some (.int (jI (k + 1))), some (.int (jI z5))]) kc_1 rfl rfl ?_
        refine w_goto ?_
        exact ih1 _ top (k + 1) (some z5) t15 ok15 fr15 wf15 (by omega) (by omega) (by omega) (by omega) (by omega) (by first | exact we_n i1_5 i1_0 ec (by omega) (by first | exact Or.inl ⟨by omega, rfl⟩ | exact Or.inr ⟨by omega, by omega, e2⟩ | omega) ht15 | exact we_t i1_5 i1_0 ec (by omega) e3 (by omega) ht15 | exact we_2 i1_5 i1_0 ec (by omega) e4 e5 hp99qq_2 (by rw [ht15, show top + (-1) - 1 = top - 2 by omega]) (by omega) | omega) (by omega) (by omega) (by omega)
      refine w_aload rfl ?_
      refine w_getR (g_68_24 _) ?_
      refine w_iload rfl ?_
      refine w_iload rfl ?_
      refine w_push kc_10000 ?_
      refine w_cge (by omega) (fun h16 => ?_) (fun h16 => ?_)
      · skip
        refine w_step rfl ?_
        refine w_aload rfl ?_
        refine w_getR (g_68_25 _) ?_
        refine w_iload rfl ?_
        refine w_push kc_10000 ?_
        refine w_sub ?_
        refine w_iald (i := ((z5 - 10000)).toNat) (ai_82 _) (by omega) (by omega) (ae_82 _) ok2 (fun z17 hz17 hl17 hh17 => ?_)
        have e2 : z17 = tA t 82 ((z5 - 10000)).toNat := by rw [hz17, fr2.2.1 82 (by simp)]
        refine w_goto ?_
        refine w_step rfl ?_
        refine w_iast (i := (top).toNat) (ai_81 _) rfl (by omega) (by omega) (ae_81 _) ok2 (by omega) (fun t18 ht18 ok18 => ?_)
        have fr18 := fr2.uA ht18 (by simp)
        have wf18 := wf2.uAo ht18 (by decide)
        refine w_iinc (lv' := [some (.ref 68), some (.int (jI x)), some (.int (jI (top + 1))), some (.int (jI (z1 % 1000))), some (.int (jI k)), some (.int (jI z5))]) kc_1 rfl rfl ?_
        refine w_goto ?_
        refine w_step rfl ?_
        refine w_iinc (lv' := [some (.ref 68), some (.int (jI x)), some (.int (jI (top + 1))), some (.int (jI (z1 % 1000))), some (.int (jI (k + 1))), some (.int (jI z5))]) kc_1 rfl rfl ?_
        refine w_goto ?_
        exact ih1 _ (top + 1) (k + 1) (some z5) t18 ok18 fr18 wf18 (by omega) (by omega) (by omega) (by omega) (by omega) (by first | exact we_n i1_5 i1_0 ec (by omega) (by first | exact Or.inl ⟨by omega, rfl⟩ | exact Or.inr ⟨by omega, by omega, e2⟩ | omega) ht18 | exact we_t i1_5 i1_0 ec (by omega) e3 (by omega) ht18 | exact we_2 i1_5 i1_0 ec (by omega) e4 e5 hp17_2 (by rw [ht18, show top + (-1) - 1 = top - 2 by omega]) (by omega) | omega) (by omega) (by omega) (by omega)
      refine w_iload rfl ?_
      refine w_goto ?_
      refine w_step rfl ?_
      refine w_iast (i := (top).toNat) (ai_81 _) rfl (by omega) (by omega) (ae_81 _) ok2 (by omega) (fun t19 ht19 ok19 => ?_)
      have fr19 := fr2.uA ht19 (by simp)
      have wf19 := wf2.uAo ht19 (by decide)
      refine w_iinc (lv' := [some (.ref 68), some (.int (jI x)), some (.int (jI (top + 1))), some (.int (jI (z1 % 1000))), some (.int (jI k)), some (.int (jI z5))]) kc_1 rfl rfl ?_
      refine w_goto ?_
      refine w_step rfl ?_
      refine w_iinc (lv' := [some (.ref 68), some (.int (jI x)), some (.int (jI (top + 1))), some (.int (jI (z1 % 1000))), some (.int (jI (k + 1))), some (.int (jI z5))]) kc_1 rfl rfl ?_
      refine w_goto ?_
      exact ih1 _ (top + 1) (k + 1) (some z5) t19 ok19 fr19 wf19 (by omega) (by omega) (by omega) (by omega) (by omega) (by first | exact we_n i1_5 i1_0 ec (by omega) (by first | exact Or.inl ⟨by omega, rfl⟩ | exact Or.inr ⟨by omega, by omega, e2⟩ | omega) ht19 | exact we_t i1_5 i1_0 ec (by omega) e3 (by omega) ht19 | exact we_2 i1_5 i1_0 ec (by omega) e4 e5 hp99qq_2 (by rw [ht19, show top + (-1) - 1 = top - 2 by omega]) (by omega) | omega) (by omega) (by omega) (by omega)
  exact key1 98 _ 0 0 none t ok fr q0 (by omega) (by omega) rfl (by omega) (by omega) (we_0 t x) (by omega) (by omega) (by omega)
set_option maxRecDepth 100000 in
set_option maxHeartbeats 4000000 in
theorem e_X9_darkOf {d : Nat} {t : TS} {s p r : Int}  (ok : OK t) (q0 : WF t 69) (q1 : NZ t 69) (q2 : 0 ≤ s) (q3 : s ≤ 11) (q4 : 0 ≤ p) (q5 : p ≤ 6) (q6 : -2147483648 ≤ r) (q7 : r ≤ 2147483647) : CI (EX FU (d + 3)) 143 [.ref 68, .int (jI s), .int (jI p), .int (jI r)] (mk t) (fun z t' => OK t' ∧ Fr [(81, 100), (82, 100)] t t' ∧ (0 ≤ z) ∧ (z ≤ 99) ∧ (z = dkA t 69 s.toNat p r)) := by
  refine CI_ent (d := d + 2) (Bk := bX9_darkOf) (nL := 6) rfl rfl rfl (Nat.le_of_ble_eq_true rfl) ?_
  show Rn _ 1000000 0 [some (.ref 68), some (.int (jI s)), some (.int (jI p)), some (.int (jI r)), none, none] [] _ _
  have fr : Fr [(81, 100), (82, 100)] t t := Fr.rf _ _
  have hn0 := (ok.a (ax_69 nr_1)).1
  have hn1 := (ok.a (ax_69 nr_1)).2
  refine w_step rfl ?_
  refine w_aload rfl ?_
  refine w_push kc_0 ?_
  refine w_callV1I (oj_68 _).choose_spec rfl (e_X9_counts ok (by omega) (by omega)) ?_
  rintro z1 t1 ⟨rfl, hp1_0, hp1_1, hp1_2, hp1_3⟩
  have hcu := hp1_3
  refine w_istore (lv' := [some (.ref 68), some (.int (jI s)), some (.int (jI p)), some (.int (jI r)), some (.int (jI z1)), none]) rfl ?_
  refine w_aload rfl ?_
  refine w_getR (g_68_25 _) ?_
  refine w_push kc_0 ?_
  refine w_iload rfl ?_
  refine w_iast (i := 0) (ai_82 _) rfl (by omega) (by omega) (ae_82 _) ok (by omega) (fun t2 ht2 ok2 => ?_)
  have fr2 := fr.uA ht2 (by simp)
  have wf2 := q0.uAo ht2 (by decide)
  refine w_aload rfl ?_
  refine w_getR (g_68_25 _) ?_
  refine w_push kc_1 ?_
  refine w_iload rfl ?_
  refine w_iast (i := 1) (ai_82 _) rfl (by omega) (by omega) (ae_82 _) ok2 (by omega) (fun t3 ht3 ok3 => ?_)
  have fr3 := fr2.uA ht3 (by simp)
  have wf3 := wf2.uAo ht3 (by decide)
  refine w_aload rfl ?_
  refine w_getR (g_68_25 _) ?_
  refine w_push kc_2 ?_
  refine w_aload rfl ?_
  refine w_iload rfl ?_
  refine w_callV1I (oj_68 _).choose_spec rfl (c_X9_heavyOf ok3 (by omega) (by omega)) ?_
  rintro z4 t4 ⟨rfl, hp4_0, hp4_1, hp4_2⟩
  have hhv : z4 = hvA t 69 s.toNat := by
    rw [hp4_0]
    have e := fr3.2.1 69 (by simp)
    simp only [e]
    unfold hvA
    congr 2 <;> omega
  refine w_iast (i := 2) (ai_82 _) rfl (by omega) (by omega) (ae_82 _) ok3 (by omega) (fun t5 ht5 ok5 => ?_)
  have fr5 := fr3.uA ht5 (by simp)
  have wf5 := wf3.uAo ht5 (by decide)
  have frc := fr5
  refine w_iload rfl ?_
  refine w_ige (by omega) (fun h6 => ?_) (fun h6 => ?_)
  · skip
    refine w_step rfl ?_
    refine w_aload rfl ?_
    refine w_iload rfl ?_
    refine w_callV1I (oj_68 _).choose_spec rfl (e_X9_worksOut ok5 wf5 (by intro k hk; have e := fr5.2.1 69 (by simp); rw [e] at hk ⊢; exact q1 k hk) (by omega) (by have h4 := fr5.2.1 69 (by simp) 4; omega)) ?_
    rintro z7 t7 ⟨ok7, fq7, hp7_0, hp7_1, hp7_2⟩
    have fr7 := fr5.then fq7 (by simp)
    have wf7 := wf5.fr fq7 (by simp)
    have hwo : z7 = exR t 69 0 (15 * p) p r (hvA t 69 s.toNat) := by
      have e := ev_x (t := t) (u := t5) (f0 := p) (f1 := r) (f2 := hvA t 69 s.toNat) (by intro i; exact frc.2.1 69 (by simp) i) (by rw [ht5, tA_uA, if_neg (by decide), ht3, tA_uA, if_neg (by decide), ht2, tA_uA, if_pos ⟨rfl, rfl⟩]) (by rw [ht5, tA_uA, if_neg (by decide), ht3, tA_uA, if_pos ⟨rfl, rfl⟩]) (by rw [ht5, tA_uA, if_pos ⟨rfl, rfl⟩]; exact hhv) hcu (by omega) hp7_2 (d := 15 * p)
      exact e
    refine w_push kc_0 ?_
    refine w_push kc_99 ?_
    refine w_callS3I rfl (c_X9_within ok7 (by omega) (by omega) (by omega) (by omega) (by omega) (by omega) (by omega)) ?_
    rintro z8 t8 ⟨rfl, hp8_0⟩
    refine w_goto ?_
    refine w_step rfl ?_
    refine w_istore (lv' := [some (.ref 68), some (.int (jI s)), some (.int (jI p)), some (.int (jI r)), some (.int (jI z1)), some (.int (jI z8))]) rfl ?_
    refine w_aload rfl ?_
    refine w_iload rfl ?_
    refine w_push kc_0 ?_
    refine w_callV2I (oj_68 _).choose_spec rfl (c_X9_of ok7 (by omega) (by omega) (by omega) (by omega)) ?_
    rintro z9 t9 ⟨rfl, hp9_0, hp9_1, hp9_2⟩
    have hr9 := of_r0 (s := s) ok7 (by omega)
    have hkd : z9 = tA t 69 (29 + 5 * s.toNat) := by
      rw [hp9_0, fr7.2.1 69 (by simp)]
      congr 1
      omega
    have hs10 : z9 = 1 ∨ z9 = 2 ∨ z9 = 3 ∨ z9 = 4 ∨ z9 = 5 ∨ (z9 < 1 ∨ 1 + 5 ≤ z9) := (by omega)
    rcases hs10 with hs10 | hs10 | hs10 | hs10 | hs10 | hs10
    · refine w_sw (n := 3) (tsw_at hs10 (by decide)) ?_
      refine w_step rfl ?_
      refine w_iload rfl ?_
      refine w_push kc_10 ?_
      refine w_sub ?_
      refine w_push kc_0 ?_
      refine w_push kc_99 ?_
      refine w_callS3I rfl (c_X9_within ok7 (by omega) (by omega) (by omega) (by omega) (by omega) (by omega) (by omega)) ?_
      rintro z11 t11 ⟨rfl, hp11_0⟩
      refine w_retI rfl ?_
      exact ⟨ok7, fr7, (by omega), (by omega), (by unfold dkA; rw [← hkd]; (first | rw [← hwo] | rw [ex_0 (by rw [← hcu]; omega)]); unfold dkF; (repeat' split) <;> omega)⟩
    · refine w_sw (n := 4) (tsw_at hs10 (by decide)) ?_
      refine w_step rfl ?_
      refine w_push kc_99 ?_
      refine w_iload rfl ?_
      refine w_sub ?_
      refine w_retI rfl ?_
      exact ⟨ok7, fr7, (by omega), (by omega), (by unfold dkA; rw [← hkd]; (first | rw [← hwo] | rw [ex_0 (by rw [← hcu]; omega)]); unfold dkF; (repeat' split) <;> omega)⟩
    · refine w_sw (n := 5) (tsw_at hs10 (by decide)) ?_
      refine w_step rfl ?_
      refine w_iload rfl ?_
      refine w_push kc_10 ?_
      refine w_sub ?_
      refine w_push kc_0 ?_
      refine w_push kc_99 ?_
      refine w_callS3I rfl (c_X9_within ok7 (by omega) (by omega) (by omega) (by omega) (by omega) (by omega) (by omega)) ?_
      rintro z12 t12 ⟨rfl, hp12_0⟩
      refine w_push kc_60 ?_
      refine w_add ?_
      refine w_push kc_2 ?_
      refine w_div (by omega) ?_
      refine w_retI rfl ?_
      exact ⟨ok7, fr7, (by omega), (by omega), (by unfold dkA; rw [← hkd]; (first | rw [← hwo] | rw [ex_0 (by rw [← hcu]; omega)]); unfold dkF; (repeat' split) <;> omega)⟩
    · refine w_sw (n := 6) (tsw_at hs10 (by decide)) ?_
      refine w_step rfl ?_
      refine w_push kc_104 ?_
      refine w_iload rfl ?_
      refine w_sub ?_
      refine w_push kc_0 ?_
      refine w_push kc_99 ?_
      refine w_callS3I rfl (c_X9_within ok7 (by omega) (by omega) (by omega) (by omega) (by omega) (by omega) (by omega)) ?_
      rintro z13 t13 ⟨rfl, hp13_0⟩
      refine w_retI rfl ?_
      exact ⟨ok7, fr7, (by omega), (by omega), (by unfold dkA; rw [← hkd]; (first | rw [← hwo] | rw [ex_0 (by rw [← hcu]; omega)]); unfold dkF; (repeat' split) <;> omega)⟩
    · refine w_sw (n := 7) (tsw_at hs10 (by decide)) ?_
      refine w_step rfl ?_
      refine w_push kc_0 ?_
      refine w_retI rfl ?_
      exact ⟨ok7, fr7, (by omega), (by omega), (by unfold dkA; rw [← hkd]; (first | rw [← hwo] | rw [ex_0 (by rw [← hcu]; omega)]); unfold dkF; (repeat' split) <;> omega)⟩
    · refine w_sw (n := 8) (tsw_df (m := 5) rfl (by omega) (by omega)) ?_
      refine w_step rfl ?_
      refine w_iload rfl ?_
      refine w_retI rfl ?_
      exact ⟨ok7, fr7, (by omega), (by omega), (by unfold dkA; rw [← hkd]; (first | rw [← hwo] | rw [ex_0 (by rw [← hcu]; omega)]); unfold dkF; (repeat' split) <;> omega)⟩
  refine w_push kc_15 ?_
  refine w_iload rfl ?_
  refine w_mul ?_
  refine w_goto ?_
  refine w_step rfl ?_
  refine w_istore (lv' := [some (.ref 68), some (.int (jI s)), some (.int (jI p)), some (.int (jI r)), some (.int (jI z1)), some (.int (jI (15 * p)))]) rfl ?_
  refine w_aload rfl ?_
  refine w_iload rfl ?_
  refine w_push kc_0 ?_
  refine w_callV2I (oj_68 _).choose_spec rfl (c_X9_of ok5 (by omega) (by omega) (by omega) (by omega)) ?_
  rintro z14 t14 ⟨rfl, hp14_0, hp14_1, hp14_2⟩
  have hr14 := of_r0 (s := s) ok5 (by omega)
  have hkd : z14 = tA t 69 (29 + 5 * s.toNat) := by
    rw [hp14_0, fr5.2.1 69 (by simp)]
    congr 1
    omega
  have hs15 : z14 = 1 ∨ z14 = 2 ∨ z14 = 3 ∨ z14 = 4 ∨ z14 = 5 ∨ (z14 < 1 ∨ 1 + 5 ≤ z14) := (by omega)
  rcases hs15 with hs15 | hs15 | hs15 | hs15 | hs15 | hs15
  · refine w_sw (n := 3) (tsw_at hs15 (by decide)) ?_
    refine w_step rfl ?_
    refine w_iload rfl ?_
    refine w_push kc_10 ?_
    refine w_sub ?_
    refine w_push kc_0 ?_
    refine w_push kc_99 ?_
    refine w_callS3I rfl (c_X9_within ok5 (by omega) (by omega) (by omega) (by omega) (by omega) (by omega) (by omega)) ?_
    rintro z16 t16 ⟨rfl, hp16_0⟩
    refine w_retI rfl ?_
    exact ⟨ok5, fr5, (by omega), (by omega), (by unfold dkA; rw [← hkd]; (first | rw [← hwo] | rw [ex_0 (by rw [← hcu]; omega)]); unfold dkF; (repeat' split) <;> omega)⟩
  · refine w_sw (n := 4) (tsw_at hs15 (by decide)) ?_
    refine w_step rfl ?_
    refine w_push kc_99 ?_
    refine w_iload rfl ?_
    refine w_sub ?_
    refine w_retI rfl ?_
    exact ⟨ok5, fr5, (by omega), (by omega), (by unfold dkA; rw [← hkd]; (first | rw [← hwo] | rw [ex_0 (by rw [← hcu]; omega)]); unfold dkF; (repeat' split) <;> omega)⟩
  · refine w_sw (n := 5) (tsw_at hs15 (by decide)) ?_
    refine w_step rfl ?_
    refine w_iload rfl ?_
    refine w_push kc_10 ?_
    refine w_sub ?_
    refine w_push kc_0 ?_
    refine w_push kc_99 ?_
    refine w_callS3I rfl (c_X9_within ok5 (by omega) (by omega) (by omega) (by omega) (by omega) (by omega) (by omega)) ?_
    rintro z17 t17 ⟨rfl, hp17_0⟩
    refine w_push kc_60 ?_
    refine w_add ?_
    refine w_push kc_2 ?_
    refine w_div (by omega) ?_
    refine w_retI rfl ?_
    exact ⟨ok5, fr5, (by omega), (by omega), (by unfold dkA; rw [← hkd]; (first | rw [← hwo] | rw [ex_0 (by rw [← hcu]; omega)]); unfold dkF; (repeat' split) <;> omega)⟩
  · refine w_sw (n := 6) (tsw_at hs15 (by decide)) ?_
    refine w_step rfl ?_
    refine w_push kc_104 ?_
    refine w_iload rfl ?_
    refine w_sub ?_
    refine w_push kc_0 ?_
    refine w_push kc_99 ?_
    refine w_callS3I rfl (c_X9_within ok5 (by omega) (by omega) (by omega) (by omega) (by omega) (by omega) (by omega)) ?_
    rintro z18 t18 ⟨rfl, hp18_0⟩
    refine w_retI rfl ?_
    exact ⟨ok5, fr5, (by omega), (by omega), (by unfold dkA; rw [← hkd]; (first | rw [← hwo] | rw [ex_0 (by rw [← hcu]; omega)]); unfold dkF; (repeat' split) <;> omega)⟩
  · refine w_sw (n := 7) (tsw_at hs15 (by decide)) ?_
    refine w_step rfl ?_
    refine w_push kc_0 ?_
    refine w_retI rfl ?_
    exact ⟨ok5, fr5, (by omega), (by omega), (by unfold dkA; rw [← hkd]; (first | rw [← hwo] | rw [ex_0 (by rw [← hcu]; omega)]); unfold dkF; (repeat' split) <;> omega)⟩
  · refine w_sw (n := 8) (tsw_df (m := 5) rfl (by omega) (by omega)) ?_
    refine w_step rfl ?_
    refine w_iload rfl ?_
    refine w_retI rfl ?_
    exact ⟨ok5, fr5, (by omega), (by omega), (by unfold dkA; rw [← hkd]; (first | rw [← hwo] | rw [ex_0 (by rw [← hcu]; omega)]); unfold dkF; (repeat' split) <;> omega)⟩
set_option maxRecDepth 100000 in
set_option maxHeartbeats 4000000 in
theorem e_X9_spotsOf {d : Nat} {t : TS} {s h u : Int}  (ok : OK t) (q0 : 0 ≤ s) (q1 : s ≤ 11) (q2 : -2147483648 ≤ h) (q3 : h ≤ 2147483647) (q4 : -2147483648 ≤ u) (q5 : u ≤ 2147483647) : CI (EX FU (d + 2)) 142 [.ref 68, .int (jI s), .int (jI h), .int (jI u)] (mk t) (fun z t' => t = t' ∧ (0 ≤ z) ∧ (z ≤ 6) ∧ (z = spR t s.toNat h u)) := by
  refine CI_ent (d := d + 1) (Bk := bX9_spotsOf) (nL := 4) rfl rfl rfl (Nat.le_of_ble_eq_true rfl) ?_
  show Rn _ 1000000 0 [some (.ref 68), some (.int (jI s)), some (.int (jI h)), some (.int (jI u))] [] _ _
  have hn0 := (ok.a (ax_69 nr_1)).1
  have hn1 := (ok.a (ax_69 nr_1)).2
  refine w_step rfl ?_
  refine w_aload rfl ?_
  refine w_iload rfl ?_
  refine w_iload rfl ?_
  refine w_iload rfl ?_
  refine w_cne (by omega) (fun h1 => ?_) (fun h1 => ?_)
  · skip
    refine w_step rfl ?_
    refine w_push kc_2 ?_
    refine w_goto ?_
    refine w_step rfl ?_
    refine w_callV2I (oj_68 _).choose_spec rfl (c_X9_of ok (by omega) (by omega) (by omega) (by omega)) ?_
    rintro z2 t2 ⟨rfl, hp2_0, hp2_1, hp2_2⟩
    have hr2 := of_r2 (s := s) ok (by omega)
    refine w_retI rfl ?_
    exact ⟨rfl, (by omega), (by omega), (by unfold spR spF2 LA RA; split <;> first | (exfalso; omega) | (rename_i hh; first | (rw [hp2_0]; congr 1; omega)))⟩
  refine w_push kc_1 ?_
  refine w_goto ?_
  refine w_step rfl ?_
  refine w_callV2I (oj_68 _).choose_spec rfl (c_X9_of ok (by omega) (by omega) (by omega) (by omega)) ?_
  rintro z3 t3 ⟨rfl, hp3_0, hp3_1, hp3_2⟩
  have hr3 := of_r1 (s := s) ok (by omega)
  refine w_retI rfl ?_
  exact ⟨rfl, (by omega), (by omega), (by unfold spR spF2 LA RA; split <;> first | (exfalso; omega) | (rename_i hh; first | (rw [hp3_0]; congr 1; omega)))⟩
set_option maxRecDepth 100000 in
set_option maxHeartbeats 4000000 in
theorem e_X9_offOf {d : Nat} {t : TS} {s p u : Int}  (ok : OK t) (q0 : WF t 69) (q1 : NZ t 69) (q2 : 0 ≤ s) (q3 : s ≤ 11) (q4 : 0 ≤ p) (q5 : p ≤ 11) (q6 : 0 ≤ u) (q7 : u ≤ 1) : CI (EX FU (d + 4)) 144 [.ref 68, .int (jI s), .int (jI p), .int (jI u)] (mk t) (fun z t' => OK t' ∧ Fr [(81, 100), (82, 100)] t t' ∧ (0 ≤ z) ∧ (z ≤ 198) ∧ (z = OA t 69 s.toNat p.toNat u.toNat)) := by
  refine CI_ent (d := d + 3) (Bk := bX9_offOf) (nL := 6) rfl rfl rfl (Nat.le_of_ble_eq_true rfl) ?_
  show Rn _ 1000000 0 [some (.ref 68), some (.int (jI s)), some (.int (jI p)), some (.int (jI u)), none, none] [] _ _
  have fr : Fr [(81, 100), (82, 100)] t t := Fr.rf _ _
  have hn0 := (ok.a (ax_69 nr_1)).1
  have hn1 := (ok.a (ax_69 nr_1)).2
  refine w_step rfl ?_
  refine w_aload rfl ?_
  refine w_iload rfl ?_
  refine w_aload rfl ?_
  refine w_iload rfl ?_
  refine w_push kc_0 ?_
  refine w_iload rfl ?_
  refine w_callV3I (oj_68 _).choose_spec rfl (e_X9_spotsOf ok (by omega) (by omega) (by omega) (by omega) (by omega) (by omega)) ?_
  rintro z1 t1 ⟨rfl, hp1_0, hp1_1, hp1_2⟩
  have hs1 := hp1_2
  have hs1a : z1 = (if u.toNat = 0 then tA t 69 (30 + 5 * s.toNat) else tA t 69 (31 + 5 * s.toNat)) := by rw [hs1]; exact so_0 (by omega)
  refine w_iload rfl ?_
  refine w_push kc_3 ?_
  refine w_div (by omega) ?_
  refine w_callV3I (oj_68 _).choose_spec rfl (e_X9_darkOf ok q0 (by intro k hk; have e := fr.2.1 69 (by simp); rw [e] at hk ⊢; exact q1 k hk) (by omega) (by omega) (by omega) (by omega) (by omega) (by omega)) ?_
  rintro z2 t2 ⟨ok2, fq2, hp2_0, hp2_1, hp2_2⟩
  have fr2 := fr.then fq2 (by simp)
  have wf2 := q0.fr fq2 (by simp)
  have hd1 : z2 = dkS t 69 s.toNat (p.toNat / 3) u.toNat := by rw [hp2_2, hs1a, show (p / 3 : Int) = ((p.toNat / 3 : Nat) : Int) by omega]; rfl
  have frd := fr2
  refine w_istore (lv' := [some (.ref 68), some (.int (jI s)), some (.int (jI p)), some (.int (jI u)), some (.int (jI z2)), none]) rfl ?_
  refine w_aload rfl ?_
  refine w_iload rfl ?_
  refine w_aload rfl ?_
  refine w_iload rfl ?_
  refine w_push kc_1 ?_
  refine w_iload rfl ?_
  refine w_callV3I (oj_68 _).choose_spec rfl (e_X9_spotsOf ok2 (by omega) (by omega) (by omega) (by omega) (by omega) (by omega)) ?_
  rintro z3 t3 ⟨rfl, hp3_0, hp3_1, hp3_2⟩
  have hs2a : z3 = (if 1 - u.toNat = 0 then tA t 69 (30 + 5 * s.toNat) else tA t 69 (31 + 5 * s.toNat)) := by
    rw [hp3_2, spR_fr frd (by simp)]
    exact so_1 (by omega)
  refine w_iload rfl ?_
  refine w_push kc_3 ?_
  refine w_div (by omega) ?_
  refine w_callV3I (oj_68 _).choose_spec rfl (e_X9_darkOf ok2 wf2 (by intro k hk; have e := fr2.2.1 69 (by simp); rw [e] at hk ⊢; exact q1 k hk) (by omega) (by omega) (by omega) (by omega) (by omega) (by omega)) ?_
  rintro z4 t4 ⟨ok4, fq4, hp4_0, hp4_1, hp4_2⟩
  have fr4 := fr2.then fq4 (by simp)
  have wf4 := wf2.fr fq4 (by simp)
  have hd2 : z4 = dkS t 69 s.toNat (p.toNat / 3) (1 - u.toNat) := by
    rw [hp4_2, hs2a, dkA_fr frd (by simp), show (p / 3 : Int) = ((p.toNat / 3 : Nat) : Int) by omega]
    rfl
  refine w_istore (lv' := [some (.ref 68), some (.int (jI s)), some (.int (jI p)), some (.int (jI u)), some (.int (jI z2)), some (.int (jI z4))]) rfl ?_
  refine w_iload rfl ?_
  refine w_aload rfl ?_
  refine w_getR (g_68_0 _) ?_
  refine w_push kc_5 ?_
  refine w_push kc_2 ?_
  refine w_iload rfl ?_
  refine w_mul ?_
  refine w_add ?_
  refine w_iald (i := ((5 + (2 * p))).toNat) (ai_69 _) (by omega) (by omega) (ax_69 (nr_W (by omega))) ok4 (fun z5 hz5 hl5 hh5 => ?_)
  have hw1 : z5 = tA t 69 (5 + 2 * p.toNat) := by
    rw [hz5, fr4.2.1 69 (by simp)]
    congr 1
    omega
  refine w_callS2I rfl (c_X9_apart ok4 (by omega) (by omega) (by omega) (by omega)) ?_
  rintro z6 t6 ⟨rfl, hp6_0⟩
  have ha1 := hp6_0
  refine w_iload rfl ?_
  refine w_aload rfl ?_
  refine w_getR (g_68_0 _) ?_
  refine w_push kc_5 ?_
  refine w_push kc_2 ?_
  refine w_iload rfl ?_
  refine w_mul ?_
  refine w_add ?_
  refine w_push kc_1 ?_
  refine w_add ?_
  refine w_iald (i := (((5 + (2 * p)) + 1)).toNat) (ai_69 _) (by omega) (by omega) (ax_69 (nr_W (by omega))) ok4 (fun z7 hz7 hl7 hh7 => ?_)
  have hw2 : z7 = tA t 69 (6 + 2 * p.toNat) := by
    rw [hz7, fr4.2.1 69 (by simp)]
    congr 1
    omega
  refine w_callS2I rfl (c_X9_apart ok4 (by omega) (by omega) (by omega) (by omega)) ?_
  rintro z8 t8 ⟨rfl, hp8_0⟩
  have ha2 := hp8_0
  refine w_add ?_
  refine w_retI rfl ?_
  exact ⟨ok4, fr4, (by omega), (by omega), (by unfold OA; rw [if_pos (by omega), ← hd1, ← hd2, ← hw1, ← hw2]; unfold abF; (repeat' split) <;> omega)⟩
end
