theorem at_s {a u v : TS} {b : Nat} {s : Int} (h0 : 0 ≤ s) (f : Fr [(b + 8, 100)] a u) (h : ∀ s2 r v : Nat, (s2 : Int) < s → r < 4 → v < 2 → tA u (b + 8) ((s2 * 4 + r) * 2 + v) = dkC a b s2 r v) (d : DNp u v b s.toNat 4) : ∀ s2 r w : Nat, (s2 : Int) < s + 1 → r < 4 → w < 2 → tA v (b + 8) ((s2 * 4 + r) * 2 + w) = dkC a b s2 r w := by
  intro s2 r w h1 h2 h3
  by_cases e : s2 = s.toNat
  · subst e
    rw [d.1 r w h2 h3]
    exact dkC_fr f (by simp) (by simp) (by simp) (by simp) (by simp) (by simp) _ _ _
  · rw [d.2 _ (by omega)]
    exact h s2 r w (by omega) h2 h3
theorem at_e {a u : TS} {b : Nat} {n : Int} (f : Fr [(b + 8, 100)] a u) (h : ∀ s2 r v : Nat, (s2 : Int) < n → r < 4 → v < 2 → tA u (b + 8) ((s2 * 4 + r) * 2 + v) = dkC a b s2 r v) : DK u b n := by
  intro s r v hs hr hv
  rw [h s r v hs hr hv]
  exact (dkC_fr f (by simp) (by simp) (by simp) (by simp) (by simp) (by simp) _ _ _).symm
set_option maxRecDepth 100000 in
set_option maxHeartbeats 4000000 in
theorem e_X4_addStone {d : Nat} {t : TS} {b : Nat} {k l r : Int}  (hb : isT b) (ok : OK t) (q0 : GD t) (q1 : 0 ≤ k) (q2 : k ≤ 5) (q3 : 0 ≤ l) (q4 : l ≤ 6) (q5 : 0 ≤ r) (q6 : r ≤ 6) (q7 : tI t b 10 ≤ 11) : CI (EX FU (d + 6)) 31 [.ref b, .int (jI k), .int (jI l), .int (jI r)] (mk t) (fun z t' => OK t' ∧ Fr [(b, 10), (b + 1, 100), (b + 2, 100), (b + 3, 100), (b + 4, 100), (b + 5, 100), (b + 8, 100)] t t' ∧ (z = tI t b 10) ∧ (tI t' b 10 = tI t b 10 + 1) ∧ (∀ i, tA t' (b + 1) i = if i = (tI t b 10).toNat then k else tA t (b + 1) i) ∧ (∀ i, tA t' (b + 2) i = if i = (tI t b 10).toNat then l else tA t (b + 2) i) ∧ (∀ i, tA t' (b + 3) i = if i = (tI t b 10).toNat then r else tA t (b + 3) i) ∧ (ASp t t' b)) := by
  refine CI_ent (d := d + 5) (Bk := bX4_addStone) (nL := 5) rfl rfl rfl (Nat.le_of_ble_eq_true rfl) ?_
  show Rn _ 1000000 0 [some (.ref b), some (.int (jI k)), some (.int (jI l)), some (.int (jI r)), none] [] _ _
  have fr : Fr [(b, 10), (b + 1, 100), (b + 2, 100), (b + 3, 100), (b + 4, 100), (b + 5, 100), (b + 8, 100)] t t := Fr.rf _ _
  refine w_step rfl ?_
  refine w_aload rfl ?_
  refine w_getI (gT_10 hb _) (feT_10 hb) ok (fun z1 hz1 hl1 hh1 => ?_)
  refine w_istore (lv' := [some (.ref b), some (.int (jI k)), some (.int (jI l)), some (.int (jI r)), some (.int (jI z1))]) rfl ?_
  refine w_aload rfl ?_
  refine w_dupR ?_
  refine w_getI (gT_10 hb _) (feT_10 hb) ok (fun z2 hz2 hl2 hh2 => ?_)
  refine w_push kc_1 ?_
  refine w_add ?_
  refine w_putI (pT_10 hb _) (feT_10 hb) ok (by omega) (fun t3 ht3 ok3 => ?_)
  have fr3 := fr.uI ht3 (by simp)
  refine w_aload rfl ?_
  refine w_getR (gT_0 hb _) ?_
  refine w_iload rfl ?_
  refine w_iload rfl ?_
  refine w_iast (i := (z1).toNat) (aiT_1 hb _) rfl (by omega) (by omega) (aeT_1 hb _) ok3 (by omega) (fun t4 ht4 ok4 => ?_)
  have fr4 := fr3.uA ht4 (by simp)
  refine w_aload rfl ?_
  refine w_getR (gT_1 hb _) ?_
  refine w_iload rfl ?_
  refine w_iload rfl ?_
  refine w_iast (i := (z1).toNat) (aiT_2 hb _) rfl (by omega) (by omega) (aeT_2 hb _) ok4 (by omega) (fun t5 ht5 ok5 => ?_)
  have fr5 := fr4.uA ht5 (by simp)
  refine w_aload rfl ?_
  refine w_getR (gT_2 hb _) ?_
  refine w_iload rfl ?_
  refine w_iload rfl ?_
  refine w_iast (i := (z1).toNat) (aiT_3 hb _) rfl (by omega) (by omega) (aeT_3 hb _) ok5 (by omega) (fun t6 ht6 ok6 => ?_)
  have fr6 := fr5.uA ht6 (by simp)
  refine w_aload rfl ?_
  refine w_getR (gT_3 hb _) ?_
  refine w_iload rfl ?_
  refine w_push kc_12 ?_
  refine w_iast (i := (z1).toNat) (aiT_4 hb _) rfl (by omega) (by omega) (aeT_4 hb _) ok6 (by omega) (fun t7 ht7 ok7 => ?_)
  have fr7 := fr6.uA ht7 (by simp)
  refine w_aload rfl ?_
  refine w_getR (gT_4 hb _) ?_
  refine w_iload rfl ?_
  refine w_push kc_0 ?_
  refine w_iast (i := (z1).toNat) (aiT_5 hb _) rfl (by omega) (by omega) (aeT_5 hb _) ok7 (by omega) (fun t8 ht8 ok8 => ?_)
  have fr8 := fr7.uA ht8 (by simp)
  refine w_aload rfl ?_
  refine w_iload rfl ?_
  refine w_callV1V (ojT hb _).choose_spec rfl (e_X4_darken hb ok8 (GD.fr q0 fr8) (by omega) (by omega)) ?_
  rintro t9 ⟨ok9, fq9, hp9_0⟩
  have fr9 := fr8.then fq9 (by simp)
  have fqd := fq9
  have hdn := hp9_0
  rw [hz1] at hdn
  refine w_iload rfl ?_
  refine w_retI rfl ?_
  exact ⟨ok9, fr9, (by omega), (by rw [fqd.1 b 10 (by simp)]; subst_vars; simp [tI_uA, tI_uI]), (by intro i; rw [fqd.2.1 (b + 1) (by simp) i]; subst_vars; simp [tA_uA, tA_uI, tI_uI]), (by intro i; rw [fqd.2.1 (b + 2) (by simp) i]; subst_vars; simp [tA_uA, tA_uI, tI_uI]), (by intro i; rw [fqd.2.1 (b + 3) (by simp) i]; subst_vars; simp [tA_uA, tA_uI, tI_uI]), ⟨(by intro i; rw [fqd.2.1 (b + 4) (by simp) i]; subst_vars; simp [tA_uA, tA_uI, tI_uI]), (by intro i; rw [fqd.2.1 (b + 5) (by simp) i]; subst_vars; simp [tA_uA, tA_uI, tI_uI]), fun r v hr hv => (hdn.1 r v hr hv).trans (dkC_fr fqd (by simp) (by simp) (by simp) (by simp) (by simp) (by simp) _ _ _).symm, fun i hi => (hdn.2 i hi).trans (by subst_vars; simp [tA_uA, tA_uI])⟩⟩
set_option maxRecDepth 100000 in
set_option maxHeartbeats 4000000 in
theorem e_X4_drawStone {d : Nat} {t : TS} {b : Nat}  (hb : isT b) (ok : OK t) (q0 : GD t) (q1 : tI t b 10 ≤ 11) : CV (EX FU (d + 7)) 32 [.ref b] (mk t) (fun t' => OK t' ∧ Fr [(b, 10), (b, 14), (b + 1, 100), (b + 2, 100), (b + 3, 100), (b + 4, 100), (b + 5, 100), (b + 8, 100)] t t' ∧ (tI t' b 14 = znF (znF (znF (tI t b 14)))) ∧ (tI t' b 10 = tI t b 10 + 1) ∧ (∀ i, tA t' (b + 1) i = if i = (tI t b 10).toNat then drF (znF (tI t b 14)) % 6 else tA t (b + 1) i) ∧ (∀ i, tA t' (b + 2) i = if i = (tI t b 10).toNat then drF (znF (znF (tI t b 14))) % 7 else tA t (b + 2) i) ∧ (∀ i, tA t' (b + 3) i = if i = (tI t b 10).toNat then drF (znF (znF (znF (tI t b 14)))) % 7 else tA t (b + 3) i) ∧ (ASp t t' b)) := by
  refine CV_ent (d := d + 6) (Bk := bX4_drawStone) (nL := 4) rfl rfl rfl (Nat.le_of_ble_eq_true rfl) ?_
  show Rn _ 1000000 0 [some (.ref b), none, none, none] [] _ _
  have fr : Fr [(b, 10), (b, 14), (b + 1, 100), (b + 2, 100), (b + 3, 100), (b + 4, 100), (b + 5, 100), (b + 8, 100)] t t := Fr.rf _ _
  refine w_step rfl ?_
  refine w_aload rfl ?_
  refine w_callV0I (ojT hb _).choose_spec rfl (c_X4_draw hb ok) ?_
  rintro z1 t1 ⟨ok1, fq1, hp1_0, hp1_1, hp1_2, hp1_3⟩
  have fr1 := fr.then fq1 (by simp)
  have e1 : tI t1 b 14 = znF (tI t b 14) := hp1_0
  have v1 : z1 = drF (znF (tI t b 14)) := hp1_1
  have n1 : tI t1 b 10 = tI t b 10 := fq1.1 b 10 (by simp)
  have a1 : ∀ c i, tA t1 c i = tA t c i := fun c i => fq1.2.1 c (by simp) i
  refine w_push kc_6 ?_
  refine w_rem (by omega) ?_
  refine w_istore (lv' := [some (.ref b), some (.int (jI (z1 % 6))), none, none]) rfl ?_
  refine w_aload rfl ?_
  refine w_callV0I (ojT hb _).choose_spec rfl (c_X4_draw hb ok1) ?_
  rintro z2 t2 ⟨ok2, fq2, hp2_0, hp2_1, hp2_2, hp2_3⟩
  have fr2 := fr1.then fq2 (by simp)
  have v2 : z2 = drF (znF (znF (tI t b 14))) := by rw [hp2_1, e1]
  have e2 : tI t2 b 14 = znF (znF (tI t b 14)) := by rw [hp2_0, e1]
  have n2 : tI t2 b 10 = tI t b 10 := (fq2.1 b 10 (by simp)).trans n1
  have a2 : ∀ c i, tA t2 c i = tA t c i := fun c i => (fq2.2.1 c (by simp) i).trans (a1 c i)
  refine w_push kc_7 ?_
  refine w_rem (by omega) ?_
  refine w_istore (lv' := [some (.ref b), some (.int (jI (z1 % 6))), some (.int (jI (z2 % 7))), none]) rfl ?_
  refine w_aload rfl ?_
  refine w_callV0I (ojT hb _).choose_spec rfl (c_X4_draw hb ok2) ?_
  rintro z3 t3 ⟨ok3, fq3, hp3_0, hp3_1, hp3_2, hp3_3⟩
  have fr3 := fr2.then fq3 (by simp)
  have v3 : z3 = drF (znF (znF (znF (tI t b 14)))) := by rw [hp3_1, e2]
  have e3 : tI t3 b 14 = znF (znF (znF (tI t b 14))) := by rw [hp3_0, e2]
  have n3 : tI t3 b 10 = tI t b 10 := (fq3.1 b 10 (by simp)).trans n2
  have a3 : ∀ c i, tA t3 c i = tA t c i := fun c i => (fq3.2.1 c (by simp) i).trans (a2 c i)
  refine w_push kc_7 ?_
  refine w_rem (by omega) ?_
  refine w_istore (lv' := [some (.ref b), some (.int (jI (z1 % 6))), some (.int (jI (z2 % 7))), some (.int (jI (z3 % 7)))]) rfl ?_
  refine w_aload rfl ?_
  refine w_iload rfl ?_
  refine w_iload rfl ?_
  refine w_iload rfl ?_
  refine w_callV3I (ojT hb _).choose_spec rfl (e_X4_addStone hb ok3 (GD.fr q0 fr3) (by omega) (by omega) (by omega) (by omega) (by omega) (by omega) (by omega)) ?_
  rintro z4 t4 ⟨ok4, fq4, hp4_0, hp4_1, hp4_2, hp4_3, hp4_4, hp4_5⟩
  have fr4 := fr3.then fq4 (by simp)
  have e4 := (fq4.1 b 14 (by simp)).trans e3
  have m1 := hp4_1
  have m2 := hp4_2
  have m3 := hp4_3
  have m4 := hp4_4
  have m5 := hp4_5
  refine w_popI ?_
  refine w_retV ?_
  exact ⟨ok4, fr4, e4, (by omega), (by intro i; rw [m2 i, n3, a3, v1]), (by intro i; rw [m3 i, n3, a3, v2]), (by intro i; rw [m4 i, n3, a3, v3]), (by unfold ASp at m5 ⊢; simp only [n3, a3] at m5; exact m5)⟩
set_option maxRecDepth 100000 in
set_option maxHeartbeats 4000000 in
theorem e_X4_addText {d : Nat} {t : TS} {b : Nat} {x : Nat}  (hb : isT b) (hx : x < (tD t).length) (ok : OK t) (q0 : GD t) (q1 : tI t b 11 ≤ 13) : CI (EX FU (d + 6)) 36 [.ref b, .ref (92 + 4 * x)] (mk t) (fun z t' => OK t' ∧ Fr [(b, 11), (b + 9, 101), (b + 10, 100), (b + 8, 100)] t t' ∧ (z = tI t b 11) ∧ (ATp t t' b x)) := by
  refine CI_ent (d := d + 5) (Bk := bX4_addText) (nL := 4) rfl rfl rfl (Nat.le_of_ble_eq_true rfl) ?_
  show Rn _ 1000000 0 [some (.ref b), some (.ref (92 + 4 * x)), none, none] [] _ _
  have fr : Fr [(b, 11), (b + 9, 101), (b + 10, 100), (b + 8, 100)] t t := Fr.rf _ _
  have hn11 := ok.f (feT_11 hb)
  have hn10 := ok.f (feT_10 hb)
  refine w_step rfl ?_
  refine w_aload rfl ?_
  refine w_getI (gT_11 hb _) (feT_11 hb) ok (fun z1 hz1 hl1 hh1 => ?_)
  refine w_istore (lv' := [some (.ref b), some (.ref (92 + 4 * x)), some (.int (jI z1)), none]) rfl ?_
  refine w_aload rfl ?_
  refine w_dupR ?_
  refine w_getI (gT_11 hb _) (feT_11 hb) ok (fun z2 hz2 hl2 hh2 => ?_)
  refine w_push kc_1 ?_
  refine w_add ?_
  refine w_putI (pT_11 hb _) (feT_11 hb) ok (by omega) (fun t3 ht3 ok3 => ?_)
  have fr3 := fr.uI ht3 (by simp)
  refine w_aload rfl ?_
  refine w_getR (gT_8 hb _) ?_
  refine w_iload rfl ?_
  refine w_aload rfl ?_
  refine w_aastX (i := (z1).toNat) (raT' hb _) (wtT' hb _) (by omega) (by omega) (by have hl := fr3.len; omega) ok3 (fun t4 ht4 ok4 => ?_)
  have fr4 := fr3.uT ht4 (by simp)
  refine w_aload rfl ?_
  refine w_getR (gT_9 hb _) ?_
  refine w_aload rfl ?_
  refine w_getX0 (by have hl := fr4.len; omega) ok4 (fun z5 hz5 hl5 hh5 => ?_)
  refine w_iload rfl ?_
  refine w_iast (i := (z5).toNat) (aiT_10 hb _) rfl (by omega) (by omega) (aeT_10 hb _) ok4 (by omega) (fun t6 ht6 ok6 => ?_)
  have fr6 := fr4.uA ht6 (by simp)
  have w11 : tI t6 b 11 = tI t b 11 + 1 := by rw [ht6, tI_uA, ht4, tI_uT, ht3, tI_uI, if_pos ⟨rfl, rfl⟩]; omega
  have w10 : tI t6 b 10 = tI t b 10 := by rw [ht6, tI_uA, ht4, tI_uT, ht3, tI_uI, if_neg (by simp)]
  have w9 : ∀ i : Nat, tT t6 (b + 9) i = if i = (tI t b 11).toNat then some (92 + 4 * x) else tT t (b + 9) i := by
    intro i
    rw [ht6, tT_uA, ht4, tT_uT, ht3, tT_uI, hz1]
    by_cases q : i = (tI t b 11).toNat
    · rw [if_pos ⟨rfl, q⟩, if_pos q]
    · rw [if_neg (fun h => q h.2), if_neg q]
  have wk : z5 = (tx t x).1 := by
    rw [hz5]
    have h1 : tD t4 = tD t := by rw [ht4]; show tD t3 = _; rw [ht3]; rfl
    unfold tx
    rw [h1]
  have wA : ∀ c i, tA t6 c i = if c = b + 10 ∧ i = (tx t x).1.toNat then tI t b 11 else tA t c i := by
    intro c i
    rw [ht6, tA_uA, wk, hz1, ht4, tA_uT, ht3, tA_uI]
  have wq : ∀ j, tx t6 j = tx t j := by
    intro j
    unfold tx
    have h1 : tD t6 = tD t := by rw [ht6]; show tD t4 = _; rw [ht4]; show tD t3 = _; rw [ht3]; rfl
    rw [h1]
  refine w_aload rfl ?_
  refine w_getX0 (by have hl := fr6.len; omega) ok6 (fun z7 hz7 hl7 hh7 => ?_)
  have wz : z7 = (tx t x).1 := by rw [hz7, wq]
  refine w_ine (by omega) (fun h8 => ?_) (fun h8 => ?_)
  · skip
    refine w_step rfl ?_
    refine w_iload rfl ?_
    refine w_retI rfl ?_
    exact ⟨ok6, fr6, (by omega), (by first | exact ⟨w11, w9, fun i => by rw [wA]; simp, Or.inl ⟨by omega, fun i => by rw [wA, if_neg (by omega)]⟩⟩ | exact ⟨(i1_2.1 _ _ (by simp)).trans w11, fun i => (i1_2.2.2.1 _ (by simp) i).trans (w9 i), fun i => (i1_2.2.1 _ (by simp) i).trans (by rw [wA]; simp), Or.inr ⟨by omega, at_e i1_2 (fun s2 r v h => i1_3 s2 r v (by omega))⟩⟩)⟩
  refine w_push kc_0 ?_
  refine w_istore (lv' := [some (.ref b), some (.ref (92 + 4 * x)), some (.int (jI z1)), some (.int (jI 0))]) rfl ?_
  refine w_goto ?_
  have key1 : ∀ (n1 M1 : Nat) (s : Int) (t9 : TS), OK t9 → Fr [(b, 11), (b + 9, 101), (b + 10, 100), (b + 8, 100)] t t9 → (0 ≤ s) → (s ≤ tI t b 10) → (Fr [(b + 8, 100)] t6 t9) → (∀ s2 r v : Nat, (s2 : Int) < s → r < 4 → v < 2 → tA t9 (b + 8) ((s2 * 4 + r) * 2 + v) = dkC t6 b s2 r v) → 12 - s < (n1 : Int) → 60 * n1 + (1000) ≤ M1 → Rn (bX4_addText (EX FU (d + 5))) M1 1 [some (.ref b), some (.ref (92 + 4 * x)), some (.int (jI z1)), some (.int (jI s))] [] (mk t9) (PI (fun z t' => OK t' ∧ Fr [(b, 11), (b + 9, 101), (b + 10, 100), (b + 8, 100)] t t' ∧ (z = tI t b 11) ∧ (ATp t t' b x))) := by
    intro n1
    induction n1 with
    | zero => intro M1 s t9 ok9 fr9 i1_0 i1_1 i1_2 i1_3 v1 f1; exfalso; omega
    | succ n1 ih1 =>
      intro M1 s t9 ok9 fr9 i1_0 i1_1 i1_2 i1_3 v1 f1
      obtain ⟨M1, rfl⟩ : ∃ m, M1 = m + 60 := ⟨M1 - 60, by omega⟩
      have e10 : tI t9 b 10 = tI t b 10 := fr9.1 _ _ (by simp)
      refine w_step rfl ?_
      refine w_iload rfl ?_
      refine w_aload rfl ?_
      refine w_getI (gT_10 hb _) (feT_10 hb) ok9 (fun z10 hz10 hl10 hh10 => ?_)
      refine w_cge (by omega) (fun h11 => ?_) (fun h11 => ?_)
      · skip
        refine w_step rfl ?_
        refine w_iload rfl ?_
        refine w_retI rfl ?_
        exact ⟨ok9, fr9, (by omega), (by first | exact ⟨w11, w9, fun i => by rw [wA]; simp, Or.inl ⟨by omega, fun i => by rw [wA, if_neg (by omega)]⟩⟩ | exact ⟨(i1_2.1 _ _ (by simp)).trans w11, fun i => (i1_2.2.2.1 _ (by simp) i).trans (w9 i), fun i => (i1_2.2.1 _ (by simp) i).trans (by rw [wA]; simp), Or.inr ⟨by omega, at_e i1_2 (fun s2 r v h => i1_3 s2 r v (by omega))⟩⟩)⟩
      refine w_aload rfl ?_
      refine w_iload rfl ?_
      refine w_callV1V (ojT hb _).choose_spec rfl (e_X4_darken hb ok9 (GD.fr q0 fr9) (by omega) (by omega)) ?_
      rintro t12 ⟨ok12, fq12, hp12_0⟩
      have fr12 := fr9.then fq12 (by simp)
      have fdk := fq12
      have hdn := hp12_0
      refine w_iinc (lv' := [some (.ref b), some (.ref (92 + 4 * x)), some (.int (jI z1)), some (.int (jI (s + 1)))]) kc_1 rfl rfl ?_
      refine w_goto ?_
      exact ih1 _ (s + 1) t12 ok12 fr12 (by omega) (by omega) (i1_2.then fdk (by simp)) (at_s i1_0 i1_2 i1_3 hdn) (by omega) (by omega)
  exact key1 13 _ 0 t6 ok6 fr6 (by omega) (by omega) (Fr.rf _ _) (fun s2 r v h => by omega) (by omega) (by omega)
