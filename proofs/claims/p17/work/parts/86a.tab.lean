set_option maxRecDepth 100000 in
set_option maxHeartbeats 4000000 in
theorem e_X4_offAt {d : Nat} {t : TS} {b : Nat} {s p u : Int}  (hb : isT b) (ok : OK t) (q0 : 0 ≤ s) (q1 : s ≤ 11) (q2 : 0 ≤ p) (q3 : p ≤ 11) (q4 : 0 ≤ u) (q5 : u ≤ 1) : CI (EX FU (d + 2)) 42 [.ref b, .int (jI s), .int (jI p), .int (jI u)] (mk t) (fun z t' => t = t' ∧ (z = OC t b s.toNat p.toNat u.toNat) ∧ (0 ≤ z) ∧ (z ≤ 198)) := by
  refine CI_ent (d := d + 1) (Bk := bX4_offAt) (nL := 7) rfl rfl rfl (Nat.le_of_ble_eq_true rfl) ?_
  show Rn _ 1000000 0 [some (.ref b), some (.int (jI s)), some (.int (jI p)), some (.int (jI u)), none, none, none] [] _ _
  refine w_step rfl ?_
  refine w_iload rfl ?_
  refine w_push kc_3 ?_
  refine w_div (by omega) ?_
  refine w_istore (lv' := [some (.ref b), some (.int (jI s)), some (.int (jI p)), some (.int (jI u)), some (.int (jI (p / 3))), none, none]) rfl ?_
  refine w_aload rfl ?_
  refine w_getR (gT_7 hb _) ?_
  refine w_iload rfl ?_
  refine w_iload rfl ?_
  refine w_iload rfl ?_
  refine w_callS3I rfl (c_X4_darkAt ok (by omega) (by omega) (by omega) (by omega) (by omega) (by omega)) ?_
  rintro z1 t1 ⟨rfl, hp1_0⟩
  refine w_iald (i := (z1).toNat) (aiT_8 hb _) (by omega) (by omega) (aeT_8 hb _) ok (fun z2 hz2 hl2 hh2 => ?_)
  have hD1 : z2 = tA t (b + 8) ((s * 4 + p / 3) * 2 + u).toNat := by rw [hz2, show z1 = (s * 4 + p / 3) * 2 + u by omega]
  refine w_aload rfl ?_
  refine w_getR (gT_6 hb _) ?_
  refine w_push kc_2 ?_
  refine w_iload rfl ?_
  refine w_mul ?_
  refine w_iald (i := ((2 * p)).toNat) (aiT_7 hb _) (by omega) (by omega) (aeT_7 hb _) ok (fun z3 hz3 hl3 hh3 => ?_)
  have hW1 : z3 = tA t (b + 7) (2 * p).toNat := by rw [hz3]
  refine w_sub ?_
  refine w_istore (lv' := [some (.ref b), some (.int (jI s)), some (.int (jI p)), some (.int (jI u)), some (.int (jI (p / 3))), some (.int (jI (z2 - z3))), none]) rfl ?_
  refine w_aload rfl ?_
  refine w_getR (gT_7 hb _) ?_
  refine w_iload rfl ?_
  refine w_iload rfl ?_
  refine w_push kc_1 ?_
  refine w_iload rfl ?_
  refine w_sub ?_
  refine w_callS3I rfl (c_X4_darkAt ok (by omega) (by omega) (by omega) (by omega) (by omega) (by omega)) ?_
  rintro z4 t4 ⟨rfl, hp4_0⟩
  refine w_iald (i := (z4).toNat) (aiT_8 hb _) (by omega) (by omega) (aeT_8 hb _) ok (fun z5 hz5 hl5 hh5 => ?_)
  have hD2 : z5 = tA t (b + 8) ((s * 4 + p / 3) * 2 + (1 - u)).toNat := by rw [hz5, show z4 = (s * 4 + p / 3) * 2 + (1 - u) by omega]
  refine w_aload rfl ?_
  refine w_getR (gT_6 hb _) ?_
  refine w_push kc_2 ?_
  refine w_iload rfl ?_
  refine w_mul ?_
  refine w_push kc_1 ?_
  refine w_add ?_
  refine w_iald (i := (((2 * p) + 1)).toNat) (aiT_7 hb _) (by omega) (by omega) (aeT_7 hb _) ok (fun z6 hz6 hl6 hh6 => ?_)
  have hW2 : z6 = tA t (b + 7) (2 * p + 1).toNat := by rw [hz6]
  refine w_sub ?_
  refine w_istore (lv' := [some (.ref b), some (.int (jI s)), some (.int (jI p)), some (.int (jI u)), some (.int (jI (p / 3))), some (.int (jI (z2 - z3))), some (.int (jI (z5 - z6)))]) rfl ?_
  refine w_iload rfl ?_
  refine w_abs rfl (by omega) (fun z7 hz7 => ?_)
  have a1 := ab_i hz7
  refine w_iload rfl ?_
  refine w_abs rfl (by omega) (fun z8 hz8 => ?_)
  have a2 := ab_i hz8
  refine w_add ?_
  refine w_retI rfl ?_
  exact ⟨rfl, (by rw [← oc_e (by omega)]; unfold ofF; rw [← hD1, ← hW1, ← hD2, ← hW2, ← a1, ← a2]), (by omega), (by omega)⟩
set_option maxRecDepth 100000 in
set_option maxHeartbeats 4000000 in
theorem e_X4_leastOff {d : Nat} {t : TS} {b : Nat} {s p : Int}  (hb : isT b) (ok : OK t) (q0 : 0 ≤ s) (q1 : s ≤ 11) (q2 : 0 ≤ p) (q3 : p ≤ 11) : CI (EX FU (d + 3)) 43 [.ref b, .int (jI s), .int (jI p)] (mk t) (fun z t' => t = t' ∧ (z = min (OC t b s.toNat p.toNat 0) (OC t b s.toNat p.toNat 1)) ∧ (0 ≤ z) ∧ (z ≤ 198)) := by
  refine CI_ent (d := d + 2) (Bk := bX4_leastOff) (nL := 3) rfl rfl rfl (Nat.le_of_ble_eq_true rfl) ?_
  show Rn _ 1000000 0 [some (.ref b), some (.int (jI s)), some (.int (jI p))] [] _ _
  refine w_step rfl ?_
  refine w_aload rfl ?_
  refine w_iload rfl ?_
  refine w_iload rfl ?_
  refine w_push kc_0 ?_
  refine w_callV3I (ojT hb _).choose_spec rfl (e_X4_offAt hb ok (by omega) (by omega) (by omega) (by omega) (by omega) (by omega)) ?_
  rintro z1 t1 ⟨rfl, hp1_0, hp1_1, hp1_2⟩
  refine w_aload rfl ?_
  refine w_iload rfl ?_
  refine w_iload rfl ?_
  refine w_push kc_1 ?_
  refine w_callV3I (ojT hb _).choose_spec rfl (e_X4_offAt hb ok (by omega) (by omega) (by omega) (by omega) (by omega) (by omega)) ?_
  rintro z2 t2 ⟨rfl, hp2_0, hp2_1, hp2_2⟩
  refine w_min rfl (by omega) ?_
  refine w_retI rfl ?_
  exact ⟨rfl, (by rw [hp1_0, hp2_0]; rfl), (by omega), (by omega)⟩
set_option maxRecDepth 100000 in
set_option maxHeartbeats 4000000 in
theorem e_X4_spots {d : Nat} {t : TS} {b : Nat} {s h : Int}  (hb : isT b) (ok : OK t) (q0 : 0 ≤ s) (q1 : s ≤ 11) (q2 : -2147483648 ≤ h) (q3 : h ≤ 2147483647) : CI (EX FU (d + 1)) 41 [.ref b, .int (jI s), .int (jI h)] (mk t) (fun z t' => t = t' ∧ (z = spF2 (tA t (b + 2)) (tA t (b + 3)) s.toNat h (tA t (b + 5) s.toNat)) ∧ (0 ≤ z) ∧ (z ≤ 6)) := by
  refine CI_ent (d := d + 0) (Bk := bX4_spots) (nL := 3) rfl rfl rfl (Nat.le_of_ble_eq_true rfl) ?_
  show Rn _ 1000000 0 [some (.ref b), some (.int (jI s)), some (.int (jI h))] [] _ _
  refine w_step rfl ?_
  refine w_iload rfl ?_
  refine w_aload rfl ?_
  refine w_getR (gT_4 hb _) ?_
  refine w_iload rfl ?_
  refine w_iald (i := (s).toNat) (aiT_5 hb _) (by omega) (by omega) (aeT_5 hb _) ok (fun z1 hz1 hl1 hh1 => ?_)
  refine w_cne (by omega) (fun h2 => ?_) (fun h2 => ?_)
  · skip
    refine w_step rfl ?_
    refine w_aload rfl ?_
    refine w_getR (gT_2 hb _) ?_
    refine w_iload rfl ?_
    refine w_iald (i := (s).toNat) (aiT_3 hb _) (by omega) (by omega) (aeT_3 hb _) ok (fun z3 hz3 hl3 hh3 => ?_)
    refine w_goto ?_
    refine w_step rfl ?_
    refine w_retI rfl ?_
    exact ⟨rfl, (by unfold spF2; split <;> omega), (by omega), (by omega)⟩
  refine w_aload rfl ?_
  refine w_getR (gT_1 hb _) ?_
  refine w_iload rfl ?_
  refine w_iald (i := (s).toNat) (aiT_2 hb _) (by omega) (by omega) (aeT_2 hb _) ok (fun z4 hz4 hl4 hh4 => ?_)
  refine w_goto ?_
  refine w_step rfl ?_
  refine w_retI rfl ?_
  exact ⟨rfl, (by unfold spF2; split <;> omega), (by omega), (by omega)⟩
set_option maxRecDepth 100000 in
set_option maxHeartbeats 4000000 in
theorem e_X4_moveTo {d : Nat} {t : TS} {b : Nat} {s p : Int}  (hb : isT b) (ok : OK t) (q0 : 0 ≤ s) (q1 : s ≤ 11) (q2 : 0 ≤ p) (q3 : p ≤ 13) : CV (EX FU (d + 2)) 45 [.ref b, .int (jI s), .int (jI p)] (mk t) (fun t' => OK t' ∧ Fr [(b + 4, 100), (b + 6, 100)] t t' ∧ (tA t' (b + 4) = upF (tA t (b + 4)) s.toNat p) ∧ (tA t' (b + 6) = mvH (tA t (b + 6)) (tA t (b + 4)) s.toNat p)) := by
  refine CV_ent (d := d + 1) (Bk := bX4_moveTo) (nL := 3) rfl rfl rfl (Nat.le_of_ble_eq_true rfl) ?_
  show Rn _ 1000000 0 [some (.ref b), some (.int (jI s)), some (.int (jI p))] [] _ _
  have fr : Fr [(b + 4, 100), (b + 6, 100)] t t := Fr.rf _ _
  refine w_step rfl ?_
  refine w_aload rfl ?_
  refine w_iload rfl ?_
  refine w_callV1I (ojT hb _).choose_spec rfl (c_X4_isLaid hb ok (by omega) (by omega)) ?_
  rintro z1 t1 ⟨rfl, hp1_0⟩
  rcases hp1_0 with ⟨rfl, hp1_0⟩ | ⟨rfl, hp1_0⟩
  · skip
    refine w_ieq (by omega) (fun _ => ?_) (fun h => absurd (by omega) h)
    refine w_step rfl ?_
    refine w_aload rfl ?_
    refine w_getR (gT_3 hb _) ?_
    refine w_iload rfl ?_
    refine w_iload rfl ?_
    refine w_iast (i := (s).toNat) (aiT_4 hb _) rfl (by omega) (by omega) (aeT_4 hb _) ok (by omega) (fun t2 ht2 ok2 => ?_)
    have fr2 := fr.uA ht2 (by simp)
    refine w_iload rfl ?_
    refine w_push kc_12 ?_
    refine w_cge (by omega) (fun h3 => ?_) (fun h3 => ?_)
    · skip
      refine w_step rfl ?_
      refine w_retV ?_
      exact ⟨ok2, fr2, (by funext i; unfold upF; subst_vars; simp [tA_uA]; try ((repeat' split) <;> omega)), (by funext i; unfold mvH; subst_vars; simp [tA_uA]; try ((repeat' split) <;> omega))⟩
    refine w_aload rfl ?_
    refine w_getR (gT_5 hb _) ?_
    refine w_iload rfl ?_
    refine w_iload rfl ?_
    refine w_iast (i := (p).toNat) (aiT_6 hb _) rfl (by omega) (by omega) (aeT_6 hb _) ok2 (by omega) (fun t4 ht4 ok4 => ?_)
    have fr4 := fr2.uA ht4 (by simp)
    refine w_goto ?_
    refine w_step rfl ?_
    refine w_retV ?_
    exact ⟨ok4, fr4, (by funext i; unfold upF; subst_vars; simp [tA_uA]; try ((repeat' split) <;> omega)), (by funext i; unfold mvH; subst_vars; simp [tA_uA]; try ((repeat' split) <;> omega))⟩
  refine w_ieq (by omega) (fun h => absurd h (by omega)) (fun _ => ?_)
  refine w_aload rfl ?_
  refine w_getR (gT_5 hb _) ?_
  refine w_aload rfl ?_
  refine w_getR (gT_3 hb _) ?_
  refine w_iload rfl ?_
  refine w_iald (i := (s).toNat) (aiT_4 hb _) (by omega) (by omega) (aeT_4 hb _) ok (fun z5 hz5 hl5 hh5 => ?_)
  refine w_push kc_m1 ?_
  refine w_iast (i := (z5).toNat) (aiT_6 hb _) rfl (by omega) (by omega) (aeT_6 hb _) ok (by omega) (fun t6 ht6 ok6 => ?_)
  have fr6 := fr.uA ht6 (by simp)
  refine w_goto ?_
  refine w_step rfl ?_
  refine w_aload rfl ?_
  refine w_getR (gT_3 hb _) ?_
  refine w_iload rfl ?_
  refine w_iload rfl ?_
  refine w_iast (i := (s).toNat) (aiT_4 hb _) rfl (by omega) (by omega) (aeT_4 hb _) ok6 (by omega) (fun t7 ht7 ok7 => ?_)
  have fr7 := fr6.uA ht7 (by simp)
  refine w_iload rfl ?_
  refine w_push kc_12 ?_
  refine w_cge (by omega) (fun h8 => ?_) (fun h8 => ?_)
  · skip
    refine w_step rfl ?_
    refine w_retV ?_
    exact ⟨ok7, fr7, (by funext i; unfold upF; subst_vars; simp [tA_uA]; try ((repeat' split) <;> omega)), (by funext i; unfold mvH; subst_vars; simp [tA_uA]; try ((repeat' split) <;> omega))⟩
  refine w_aload rfl ?_
  refine w_getR (gT_5 hb _) ?_
  refine w_iload rfl ?_
  refine w_iload rfl ?_
  refine w_iast (i := (p).toNat) (aiT_6 hb _) rfl (by omega) (by omega) (aeT_6 hb _) ok7 (by omega) (fun t9 ht9 ok9 => ?_)
  have fr9 := fr7.uA ht9 (by simp)
  refine w_goto ?_
  refine w_step rfl ?_
  refine w_retV ?_
  exact ⟨ok9, fr9, (by funext i; unfold upF; subst_vars; simp [tA_uA]; try ((repeat' split) <;> omega)), (by funext i; unfold mvH; subst_vars; simp [tA_uA]; try ((repeat' split) <;> omega))⟩
set_option maxRecDepth 100000 in
set_option maxHeartbeats 4000000 in
theorem e_X4_picture {d : Nat} {t : TS} {b : Nat}  (hb : isT b) (ok : OK t) : CI (EX FU (d + 3)) 46 [.ref b] (mk t) (fun z t' => t = t' ∧ (0 ≤ z) ∧ (z ≤ 2376) ∧ (z = picH (OC t b) (tA t (b + 5)) (tA t (b + 6)) 12)) := by
  refine CI_ent (d := d + 2) (Bk := bX4_picture) (nL := 4) rfl rfl rfl (Nat.le_of_ble_eq_true rfl) ?_
  show Rn _ 1000000 0 [some (.ref b), none, none, none] [] _ _
  refine w_step rfl ?_
  refine w_push kc_0 ?_
  refine w_istore (lv' := [some (.ref b), some (.int (jI 0)), none, none]) rfl ?_
  refine w_push kc_0 ?_
  refine w_istore (lv' := [some (.ref b), some (.int (jI 0)), some (.int (jI 0)), none]) rfl ?_
  refine w_goto ?_
  have key1 : ∀ (n1 M1 : Nat) (acc : Int) (p : Int) (o3 : Option Int), (0 ≤ p) → (p ≤ 12) → (0 ≤ acc) → (acc ≤ 198 * p) → (acc = picH (OC t b) (tA t (b + 5)) (tA t (b + 6)) p.toNat) → 12 - p < (n1 : Int) → 60 * n1 + (1000) ≤ M1 → Rn (bX4_picture (EX FU (d + 2))) M1 1 [some (.ref b), some (.int (jI acc)), some (.int (jI p)), dv o3] [] (mk t) (PI (fun z t' => t = t' ∧ (0 ≤ z) ∧ (z ≤ 2376) ∧ (z = picH (OC t b) (tA t (b + 5)) (tA t (b + 6)) 12))) := by
    intro n1
    induction n1 with
    | zero => intro M1 acc p o3 i1_0 i1_1 i1_2 i1_3 i1_4 v1 f1; exfalso; omega
    | succ n1 ih1 =>
      intro M1 acc p o3 i1_0 i1_1 i1_2 i1_3 i1_4 v1 f1
      obtain ⟨M1, rfl⟩ : ∃ m, M1 = m + 60 := ⟨M1 - 60, by omega⟩
      refine w_step rfl ?_
      refine w_iload rfl ?_
      refine w_push kc_12 ?_
      refine w_cge (by omega) (fun h1 => ?_) (fun h1 => ?_)
      · skip
        refine w_step rfl ?_
        refine w_iload rfl ?_
        refine w_retI rfl ?_
        exact ⟨rfl, (by omega), (by omega), (by rw [i1_4, show p.toNat = 12 by omega])⟩
      refine w_aload rfl ?_
      refine w_getR (gT_5 hb _) ?_
      refine w_iload rfl ?_
      refine w_iald (i := (p).toNat) (aiT_6 hb _) (by omega) (by omega) (aeT_6 hb _) ok (fun z2 hz2 hl2 hh2 => ?_)
      refine w_istore (lv' := [some (.ref b), some (.int (jI acc)), some (.int (jI p)), some (.int (jI z2))]) rfl ?_
      refine w_iload rfl ?_
      refine w_iload rfl ?_
      refine w_push kc_m1 ?_
      refine w_cne (by omega) (fun h3 => ?_) (fun h3 => ?_)
      · skip
        refine w_step rfl ?_
        refine w_aload rfl ?_
        refine w_iload rfl ?_
        refine w_iload rfl ?_
        refine w_aload rfl ?_
        refine w_getR (gT_4 hb _) ?_
        refine w_iload rfl ?_
        refine w_iald (i := (z2).toNat) (aiT_5 hb _) (by omega) (by omega) (aeT_5 hb _) ok (fun z4 hz4 hl4 hh4 => ?_)
        refine w_callV3I (ojT hb _).choose_spec rfl (e_X4_offAt hb ok (by omega) (by omega) (by omega) (by omega) (by omega) (by omega)) ?_
        rintro z5 t5 ⟨rfl, hp5_0, hp5_1, hp5_2⟩
        refine w_goto ?_
        refine w_step rfl ?_
        refine w_add ?_
        refine w_istore (lv' := [some (.ref b), some (.int (jI (acc + z5))), some (.int (jI p)), some (.int (jI z2))]) rfl ?_
        refine w_iinc (lv' := [some (.ref b), some (.int (jI (acc + z5))), some (.int (jI (p + 1))), some (.int (jI z2))]) kc_1 rfl rfl ?_
        refine w_goto ?_
        exact ih1 _ (acc + z5) (p + 1) (some z2)  (by omega) (by omega) (by omega) (by omega) (pic_s i1_0 i1_4 (by first | exact Or.inl ⟨by omega, rfl⟩ | exact Or.inr ⟨by omega, by rw [hp5_0, hz4, hz2]⟩ | omega)) (by omega) (by omega)
      refine w_push kc_198 ?_
      refine w_goto ?_
      refine w_step rfl ?_
      refine w_add ?_
      refine w_istore (lv' := [some (.ref b), some (.int (jI (acc + 198))), some (.int (jI p)), some (.int (jI z2))]) rfl ?_
      refine w_iinc (lv' := [some (.ref b), some (.int (jI (acc + 198))), some (.int (jI (p + 1))), some (.int (jI z2))]) kc_1 rfl rfl ?_
      refine w_goto ?_
      exact ih1 _ (acc + 198) (p + 1) (some z2)  (by omega) (by omega) (by omega) (by omega) (pic_s i1_0 i1_4 (by first | exact Or.inl ⟨by omega, rfl⟩ | exact Or.inr ⟨by omega, by rw [hp99qq_0, hz99qq, hz2]⟩ | omega)) (by omega) (by omega)
  exact key1 13 _ 0 0 none  (by omega) (by omega) (by omega) (by omega) rfl (by omega) (by omega)
set_option maxRecDepth 100000 in
set_option maxHeartbeats 4000000 in
theorem e_X4_meet {d : Nat} {t : TS} {b : Nat} {x y : Int}  (hb : isT b) (ok : OK t) (q0 : -1 ≤ x) (q1 : x ≤ 11) (q2 : -1 ≤ y) (q3 : y ≤ 11) : CI (EX FU (d + 2)) 48 [.ref b, .int (jI x), .int (jI y)] (mk t) (fun z t' => t = t' ∧ ((z = 0 ∧ ¬ (¬ x = -1 ∧ ¬ y = -1 ∧ spF2 (tA t (b + 2)) (tA t (b + 3)) x.toNat 1 (tA t (b + 5) x.toNat) = spF2 (tA t (b + 2)) (tA t (b + 3)) y.toNat 0 (tA t (b + 5) y.toNat))) ∨ (z = 1 ∧ (¬ x = -1 ∧ ¬ y = -1 ∧ spF2 (tA t (b + 2)) (tA t (b + 3)) x.toNat 1 (tA t (b + 5) x.toNat) = spF2 (tA t (b + 2)) (tA t (b + 3)) y.toNat 0 (tA t (b + 5) y.toNat))))) := by
  refine CI_ent (d := d + 1) (Bk := bX4_meet) (nL := 3) rfl rfl rfl (Nat.le_of_ble_eq_true rfl) ?_
  show Rn _ 1000000 0 [some (.ref b), some (.int (jI x)), some (.int (jI y))] [] _ _
  refine w_step rfl ?_
  refine w_iload rfl ?_
  refine w_push kc_m1 ?_
  refine w_ceq (by omega) (fun h1 => ?_) (fun h1 => ?_)
  · skip
    refine w_step rfl ?_
    refine w_push kc_0 ?_
    refine w_goto ?_
    refine w_step rfl ?_
    refine w_retI rfl ?_
    exact ⟨rfl, (by omega)⟩
  refine w_iload rfl ?_
  refine w_push kc_m1 ?_
  refine w_ceq (by omega) (fun h2 => ?_) (fun h2 => ?_)
  · skip
    refine w_step rfl ?_
    refine w_push kc_0 ?_
    refine w_goto ?_
    refine w_step rfl ?_
    refine w_retI rfl ?_
    exact ⟨rfl, (by omega)⟩
  refine w_aload rfl ?_
  refine w_iload rfl ?_
  refine w_push kc_1 ?_
  refine w_callV2I (ojT hb _).choose_spec rfl (e_X4_spots hb ok (by omega) (by omega) (by omega) (by omega)) ?_
  rintro z3 t3 ⟨rfl, hp3_0, hp3_1, hp3_2⟩
  refine w_aload rfl ?_
  refine w_iload rfl ?_
  refine w_push kc_0 ?_
  refine w_callV2I (ojT hb _).choose_spec rfl (e_X4_spots hb ok (by omega) (by omega) (by omega) (by omega)) ?_
  rintro z4 t4 ⟨rfl, hp4_0, hp4_1, hp4_2⟩
  refine w_cne (by omega) (fun h5 => ?_) (fun h5 => ?_)
  · skip
    refine w_step rfl ?_
    refine w_push kc_0 ?_
    refine w_goto ?_
    refine w_step rfl ?_
    refine w_retI rfl ?_
    exact ⟨rfl, (by omega)⟩
  refine w_push kc_1 ?_
  refine w_goto ?_
  refine w_step rfl ?_
  refine w_retI rfl ?_
  exact ⟨rfl, (by omega)⟩
set_option maxRecDepth 100000 in
set_option maxHeartbeats 4000000 in
theorem e_X4_matches {d : Nat} {t : TS} {b : Nat}  (hb : isT b) (ok : OK t) : CI (EX FU (d + 3)) 47 [.ref b] (mk t) (fun z t' => t = t' ∧ (0 ≤ z) ∧ (z ≤ 11) ∧ (z = maH (tA t (b + 2)) (tA t (b + 3)) (tA t (b + 5)) (tA t (b + 6)) 11)) := by
  refine CI_ent (d := d + 2) (Bk := bX4_matches) (nL := 4) rfl rfl rfl (Nat.le_of_ble_eq_true rfl) ?_
  show Rn _ 1000000 0 [some (.ref b), none, none, none] [] _ _
  refine w_step rfl ?_
  refine w_push kc_0 ?_
  refine w_istore (lv' := [some (.ref b), some (.int (jI 0)), none, none]) rfl ?_
  refine w_push kc_0 ?_
  refine w_istore (lv' := [some (.ref b), some (.int (jI 0)), some (.int (jI 0)), none]) rfl ?_
  refine w_goto ?_
  have key1 : ∀ (n1 M1 : Nat) (acc : Int) (p : Int) (o3 : Option Int), (0 ≤ p) → (p ≤ 11) → (0 ≤ acc) → (acc ≤ p) → (acc = maH (tA t (b + 2)) (tA t (b + 3)) (tA t (b + 5)) (tA t (b + 6)) p.toNat) → 11 - p < (n1 : Int) → 60 * n1 + (1000) ≤ M1 → Rn (bX4_matches (EX FU (d + 2))) M1 1 [some (.ref b), some (.int (jI acc)), some (.int (jI p)), dv o3] [] (mk t) (PI (fun z t' => t = t' ∧ (0 ≤ z) ∧ (z ≤ 11) ∧ (z = maH (tA t (b + 2)) (tA t (b + 3)) (tA t (b + 5)) (tA t (b + 6)) 11))) := by
    intro n1
    induction n1 with
    | zero => intro M1 acc p o3 i1_0 i1_1 i1_2 i1_3 i1_4 v1 f1; exfalso; omega
    | succ n1 ih1 =>
      intro M1 acc p o3 i1_0 i1_1 i1_2 i1_3 i1_4 v1 f1
      obtain ⟨M1, rfl⟩ : ∃ m, M1 = m + 60 := ⟨M1 - 60, by omega⟩
      refine w_step rfl ?_
      refine w_iload rfl ?_
      refine w_push kc_1 ?_
      refine w_add ?_
      refine w_push kc_12 ?_
      refine w_cge (by omega) (fun h1 => ?_) (fun h1 => ?_)
      · skip
        refine w_step rfl ?_
        refine w_iload rfl ?_
        refine w_retI rfl ?_
        exact ⟨rfl, (by omega), (by omega), (by rw [i1_4, show p.toNat = 11 by omega])⟩
      refine w_iload rfl ?_
      refine w_push kc_1 ?_
      refine w_add ?_
      refine w_push kc_3 ?_
      refine w_rem (by omega) ?_
      refine w_ieq (by omega) (fun h2 => ?_) (fun h2 => ?_)
      · skip
        refine w_step rfl ?_
        refine w_push kc_0 ?_
        refine w_goto ?_
        refine w_step rfl ?_
        refine w_istore (lv' := [some (.ref b), some (.int (jI acc)), some (.int (jI p)), some (.int (jI 0))]) rfl ?_
        refine w_iload rfl ?_
        refine w_ieq (by omega) (fun _ => ?_) (fun h => absurd (by omega) h)
        refine w_step rfl ?_
        refine w_iinc (lv' := [some (.ref b), some (.int (jI acc)), some (.int (jI (p + 1))), some (.int (jI 0))]) kc_1 rfl rfl ?_
        refine w_goto ?_
        exact ih1 _ acc (p + 1) (some 0)  (by omega) (by omega) (by omega) (by omega) (ma_s i1_0 i1_4 (by first | exact Or.inl ⟨⟨by omega, hp99qq_0⟩, rfl⟩ | exact Or.inr ⟨fun h => hp99qq_0 h.2, rfl⟩ | exact Or.inr ⟨fun h => h.1 (by omega), rfl⟩ | omega)) (by omega) (by omega)
      refine w_push kc_1 ?_
      refine w_goto ?_
      refine w_step rfl ?_
      refine w_istore (lv' := [some (.ref b), some (.int (jI acc)), some (.int (jI p)), some (.int (jI 1))]) rfl ?_
      refine w_iload rfl ?_
      refine w_ieq (by omega) (fun h => absurd h (by omega)) (fun _ => ?_)
      refine w_aload rfl ?_
      refine w_aload rfl ?_
      refine w_getR (gT_5 hb _) ?_
      refine w_iload rfl ?_
      refine w_iald (i := (p).toNat) (aiT_6 hb _) (by omega) (by omega) (aeT_6 hb _) ok (fun z3 hz3 hl3 hh3 => ?_)
      refine w_aload rfl ?_
      refine w_getR (gT_5 hb _) ?_
      refine w_iload rfl ?_
      refine w_push kc_1 ?_
      refine w_add ?_
      refine w_iald (i := ((p + 1)).toNat) (aiT_6 hb _) (by omega) (by omega) (aeT_6 hb _) ok (fun z4 hz4 hl4 hh4 => ?_)
      refine w_callV2I (ojT hb _).choose_spec rfl (e_X4_meet hb ok (by omega) (by omega) (by omega) (by omega)) ?_
      rintro z5 t5 ⟨rfl, hp5_0⟩
      rcases hp5_0 with ⟨rfl, hp5_0⟩ | ⟨rfl, hp5_0⟩
      · skip
        rw [hz3, hz4, show (p + 1).toNat = p.toNat + 1 by omega] at hp5_0
        refine w_ieq (by omega) (fun _ => ?_) (fun h => absurd (by omega) h)
        refine w_step rfl ?_
        refine w_iinc (lv' := [some (.ref b), some (.int (jI acc)), some (.int (jI (p + 1))), some (.int (jI 1))]) kc_1 rfl rfl ?_
        refine w_goto ?_
        exact ih1 _ acc (p + 1) (some 1)  (by omega) (by omega) (by omega) (by omega) (ma_s i1_0 i1_4 (by first | exact Or.inl ⟨⟨by omega, hp5_0⟩, rfl⟩ | exact Or.inr ⟨fun h => hp5_0 h.2, rfl⟩ | exact Or.inr ⟨fun h => h.1 (by omega), rfl⟩ | omega)) (by omega) (by omega)
      rw [hz3, hz4, show (p + 1).toNat = p.toNat + 1 by omega] at hp5_0
      refine w_ieq (by omega) (fun h => absurd h (by omega)) (fun _ => ?_)
      refine w_iinc (lv' := [some (.ref b), some (.int (jI (acc + 1))), some (.int (jI p)), some (.int (jI 1))]) kc_1 rfl rfl ?_
      refine w_goto ?_
      refine w_step rfl ?_
      refine w_iinc (lv' := [some (.ref b), some (.int (jI (acc + 1))), some (.int (jI (p + 1))), some (.int (jI 1))]) kc_1 rfl rfl ?_
      refine w_goto ?_
      exact ih1 _ (acc + 1) (p + 1) (some 1)  (by omega) (by omega) (by omega) (by omega) (ma_s i1_0 i1_4 (by first | exact Or.inl ⟨⟨by omega, hp5_0⟩, rfl⟩ | exact Or.inr ⟨fun h => hp5_0 h.2, rfl⟩ | exact Or.inr ⟨fun h => h.1 (by omega), rfl⟩ | omega)) (by omega) (by omega)
  exact key1 13 _ 0 0 none  (by omega) (by omega) (by omega) (by omega) rfl (by omega) (by omega)
set_option maxRecDepth 100000 in
set_option maxHeartbeats 4000000 in
theorem e_X4_placesHeld {d : Nat} {t : TS} {b : Nat}  (hb : isT b) (ok : OK t) : CI (EX FU (d + 1)) 50 [.ref b] (mk t) (fun z t' => t = t' ∧ (-2147483648 ≤ z) ∧ (z ≤ 2147483647) ∧ (z = phH (tA t (b + 6)) 12)) := by
  refine CI_ent (d := d + 0) (Bk := bX4_placesHeld) (nL := 3) rfl rfl rfl (Nat.le_of_ble_eq_true rfl) ?_
  show Rn _ 1000000 0 [some (.ref b), none, none] [] _ _
  refine w_step rfl ?_
  refine w_push kc_0 ?_
  refine w_istore (lv' := [some (.ref b), some (.int (jI 0)), none]) rfl ?_
  refine w_push kc_0 ?_
  refine w_istore (lv' := [some (.ref b), some (.int (jI 0)), some (.int (jI 0))]) rfl ?_
  refine w_goto ?_
  have key1 : ∀ (n1 M1 : Nat) (acc : Int) (p : Int), (0 ≤ p) → (p ≤ 12) → (-2147483648 ≤ acc) → (acc ≤ 2147483647) → (acc = phH (tA t (b + 6)) p.toNat) → 12 - p < (n1 : Int) → 60 * n1 + (1000) ≤ M1 → Rn (bX4_placesHeld (EX FU (d + 0))) M1 1 [some (.ref b), some (.int (jI acc)), some (.int (jI p))] [] (mk t) (PI (fun z t' => t = t' ∧ (-2147483648 ≤ z) ∧ (z ≤ 2147483647) ∧ (z = phH (tA t (b + 6)) 12))) := by
    intro n1
    induction n1 with
    | zero => intro M1 acc p i1_0 i1_1 i1_2 i1_3 i1_4 v1 f1; exfalso; omega
    | succ n1 ih1 =>
      intro M1 acc p i1_0 i1_1 i1_2 i1_3 i1_4 v1 f1
      obtain ⟨M1, rfl⟩ : ∃ m, M1 = m + 60 := ⟨M1 - 60, by omega⟩
      refine w_step rfl ?_
      refine w_iload rfl ?_
      refine w_push kc_12 ?_
      refine w_cge (by omega) (fun h1 => ?_) (fun h1 => ?_)
      · skip
        refine w_step rfl ?_
        refine w_iload rfl ?_
        refine w_retI rfl ?_
        exact ⟨rfl, (by omega), (by omega), (by rw [i1_4, show p.toNat = 12 by omega])⟩
      refine w_aload rfl ?_
      refine w_getR (gT_5 hb _) ?_
      refine w_iload rfl ?_
      refine w_iald (i := (p).toNat) (aiT_6 hb _) (by omega) (by omega) (aeT_6 hb _) ok (fun z2 hz2 hl2 hh2 => ?_)
      refine w_push kc_m1 ?_
      refine w_ceq (by omega) (fun h3 => ?_) (fun h3 => ?_)
      · skip
        refine w_step rfl ?_
        refine w_iinc (lv' := [some (.ref b), some (.int (jI acc)), some (.int (jI (p + 1)))]) kc_1 rfl rfl ?_
        refine w_goto ?_
        exact ih1 _ acc (p + 1)  (by omega) (by omega) (by omega) (by omega) (ph_s i1_0 i1_4 (by first | exact Or.inl ⟨by omega, rfl⟩ | exact Or.inr ⟨by omega, by rw [hz99qq, hz99qq]⟩ | omega)) (by omega) (by omega)
      refine w_iload rfl ?_
      refine w_push kc_1 ?_
      refine w_iload rfl ?_
      refine w_bin (fun z4 hz4 hl4 hh4 => ?_)
      refine w_bin (fun z5 hz5 hl5 hh5 => ?_)
      refine w_istore (lv' := [some (.ref b), some (.int (jI z5)), some (.int (jI p))]) rfl ?_
      refine w_goto ?_
      refine w_step rfl ?_
      refine w_iinc (lv' := [some (.ref b), some (.int (jI z5)), some (.int (jI (p + 1)))]) kc_1 rfl rfl ?_
      refine w_goto ?_
      exact ih1 _ z5 (p + 1)  (by omega) (by omega) (by omega) (by omega) (ph_s i1_0 i1_4 (by first | exact Or.inl ⟨by omega, rfl⟩ | exact Or.inr ⟨by omega, by rw [hz5, hz4]⟩ | omega)) (by omega) (by omega)
  exact key1 13 _ 0 0  (by omega) (by omega) (by omega) (by omega) rfl (by omega) (by omega)
set_option maxRecDepth 100000 in
set_option maxHeartbeats 4000000 in
theorem e_J6_bitCount_0f7a4 {d : Nat} {t : TS} {x : Int}  (ok : OK t) (q0 : -2147483648 ≤ x) (q1 : x ≤ 2147483647) : CI (EX FU (d + 1)) 225 [.int (jI x)] (mk t) (fun z t' => t = t' ∧ (z = bcF x) ∧ (-2147483648 ≤ z) ∧ (z ≤ 2147483647)) := by
  refine CI_ent (d := d + 0) (Bk := bJ6_bitCount_0f7a4) (nL := 1) rfl rfl rfl (Nat.le_of_ble_eq_true rfl) ?_
  show Rn _ 1000000 0 [some (.int (jI x))] [] _ _
  refine w_step rfl ?_
  refine w_iload rfl ?_
  refine w_iload rfl ?_
  refine w_push kc_1 ?_
  refine w_bin (fun z1 hz1 hl1 hh1 => ?_)
  refine w_push kc_1431655765 ?_
  refine w_bin (fun z2 hz2 hl2 hh2 => ?_)
  refine w_subW (fun z3 hz3 hl3 hh3 => ?_)
  refine w_istore (lv' := [some (.int (jI z3))]) rfl ?_
  refine w_iload rfl ?_
  refine w_push kc_858993459 ?_
  refine w_bin (fun z4 hz4 hl4 hh4 => ?_)
  refine w_iload rfl ?_
  refine w_push kc_2 ?_
  refine w_bin (fun z5 hz5 hl5 hh5 => ?_)
  refine w_push kc_858993459 ?_
  refine w_bin (fun z6 hz6 hl6 hh6 => ?_)
  refine w_addW (fun z7 hz7 hl7 hh7 => ?_)
  refine w_istore (lv' := [some (.int (jI z7))]) rfl ?_
  refine w_iload rfl ?_
  refine w_iload rfl ?_
  refine w_push kc_4 ?_
  refine w_bin (fun z8 hz8 hl8 hh8 => ?_)
  refine w_addW (fun z9 hz9 hl9 hh9 => ?_)
  refine w_push kc_252645135 ?_
  refine w_bin (fun z10 hz10 hl10 hh10 => ?_)
  refine w_istore (lv' := [some (.int (jI z10))]) rfl ?_
  refine w_iload rfl ?_
  refine w_iload rfl ?_
  refine w_push kc_8 ?_
  refine w_bin (fun z11 hz11 hl11 hh11 => ?_)
  have hu11 := ah_ushr8 hz11
  refine w_addW (fun z12 hz12 hl12 hh12 => ?_)
  refine w_istore (lv' := [some (.int (jI z12))]) rfl ?_
  refine w_iload rfl ?_
  refine w_iload rfl ?_
  refine w_push kc_16 ?_
  refine w_bin (fun z13 hz13 hl13 hh13 => ?_)
  refine w_addW (fun z14 hz14 hl14 hh14 => ?_)
  refine w_istore (lv' := [some (.int (jI z14))]) rfl ?_
  refine w_iload rfl ?_
  refine w_push kc_63 ?_
  refine w_bin (fun z15 hz15 hl15 hh15 => ?_)
  refine w_retI rfl ?_
  exact ⟨rfl, (by subst_vars; rfl), (by omega), (by omega)⟩
set_option maxRecDepth 100000 in
set_option maxHeartbeats 4000000 in
theorem e_X4_laidStones {d : Nat} {t : TS} {b : Nat}  (hb : isT b) (ok : OK t) : CI (EX FU (d + 2)) 49 [.ref b] (mk t) (fun z t' => t = t' ∧ (z = cnH (tA t (b + 6)) 12) ∧ (-2147483648 ≤ z) ∧ (z ≤ 2147483647)) := by
  refine CI_ent (d := d + 1) (Bk := bX4_laidStones) (nL := 1) rfl rfl rfl (Nat.le_of_ble_eq_true rfl) ?_
  show Rn _ 1000000 0 [some (.ref b)] [] _ _
  refine w_step rfl ?_
  refine w_aload rfl ?_
  refine w_callV0I (ojT hb _).choose_spec rfl (e_X4_placesHeld hb ok) ?_
  rintro z1 t1 ⟨rfl, hp1_0, hp1_1, hp1_2⟩
  refine w_callS1I rfl (e_J6_bitCount_0f7a4 ok (by omega) (by omega)) ?_
  rintro z2 t2 ⟨rfl, hp2_0, hp2_1, hp2_2⟩
  refine w_retI rfl ?_
  exact ⟨rfl, (by rw [hp2_0, hp1_2, bc_cn]), (by omega), (by omega)⟩
set_option maxRecDepth 100000 in
set_option maxHeartbeats 4000000 in
theorem e_X4_firstEmptyIn {d : Nat} {t : TS} {b : Nat} {r : Int}  (hb : isT b) (ok : OK t) (q0 : 0 ≤ r) (q1 : r ≤ 3) : CI (EX FU (d + 1)) 53 [.ref b, .int (jI r)] (mk t) (fun z t' => t = t' ∧ (z = feF (tA t (b + 6)) r) ∧ (z = -1 ∨ (r * 3 ≤ z ∧ z < r * 3 + 3))) := by
  refine CI_ent (d := d + 0) (Bk := bX4_firstEmptyIn) (nL := 4) rfl rfl rfl (Nat.le_of_ble_eq_true rfl) ?_
  show Rn _ 1000000 0 [some (.ref b), some (.int (jI r)), none, none] [] _ _
  refine w_step rfl ?_
  refine w_iload rfl ?_
  refine w_push kc_3 ?_
  refine w_mul ?_
  refine w_istore (lv' := [some (.ref b), some (.int (jI r)), some (.int (jI (r * 3))), none]) rfl ?_
  refine w_iload rfl ?_
  refine w_istore (lv' := [some (.ref b), some (.int (jI r)), some (.int (jI (r * 3))), some (.int (jI (r * 3)))]) rfl ?_
  refine w_goto ?_
  have key1 : ∀ (n1 M1 : Nat) (p : Int), (r * 3 ≤ p) → (p ≤ r * 3 + 3) → (∀ q : Int, r * 3 ≤ q → q < p → ¬ tA t (b + 6) q.toNat = -1) → 12 - p < (n1 : Int) → 60 * n1 + (1000) ≤ M1 → Rn (bX4_firstEmptyIn (EX FU (d + 0))) M1 1 [some (.ref b), some (.int (jI r)), some (.int (jI (r * 3))), some (.int (jI p))] [] (mk t) (PI (fun z t' => t = t' ∧ (z = feF (tA t (b + 6)) r) ∧ (z = -1 ∨ (r * 3 ≤ z ∧ z < r * 3 + 3)))) := by
    intro n1
    induction n1 with
    | zero => intro M1 p i1_0 i1_1 i1_2 v1 f1; exfalso; omega
    | succ n1 ih1 =>
      intro M1 p i1_0 i1_1 i1_2 v1 f1
      obtain ⟨M1, rfl⟩ : ∃ m, M1 = m + 60 := ⟨M1 - 60, by omega⟩
      refine w_step rfl ?_
      refine w_iload rfl ?_
      refine w_iload rfl ?_
      refine w_push kc_3 ?_
      refine w_add ?_
      refine w_cge (by omega) (fun h1 => ?_) (fun h1 => ?_)
      · skip
        refine w_step rfl ?_
        refine w_push kc_m1 ?_
        refine w_retI rfl ?_
        exact ⟨rfl, (feF_e (by first | exact Or.inl ⟨by omega, by omega, by omega, i1_2⟩ | exact Or.inr ⟨rfl, fun q h1 h2 => i1_2 q h1 (by omega)⟩)), (by omega)⟩
      refine w_aload rfl ?_
      refine w_getR (gT_5 hb _) ?_
      refine w_iload rfl ?_
      refine w_iald (i := (p).toNat) (aiT_6 hb _) (by omega) (by omega) (aeT_6 hb _) ok (fun z2 hz2 hl2 hh2 => ?_)
      refine w_push kc_m1 ?_
      refine w_cne (by omega) (fun h3 => ?_) (fun h3 => ?_)
      · skip
        refine w_step rfl ?_
        refine w_iinc (lv' := [some (.ref b), some (.int (jI r)), some (.int (jI (r * 3))), some (.int (jI (p + 1)))]) kc_1 rfl rfl ?_
        refine w_goto ?_
        exact ih1 _ (p + 1)  (by omega) (by omega) (fun q h1 h2 => (Int.lt_or_eq_of_le (show q ≤ p by omega)).elim (i1_2 q h1) (fun e => by rw [e]; omega)) (by omega) (by omega)
      refine w_iload rfl ?_
      refine w_retI rfl ?_
      exact ⟨rfl, (feF_e (by first | exact Or.inl ⟨by omega, by omega, by omega, i1_2⟩ | exact Or.inr ⟨rfl, fun q h1 h2 => i1_2 q h1 (by omega)⟩)), (by omega)⟩
  exact key1 13 _ (r * 3)  (by omega) (by omega) (fun q h1 h2 => by omega) (by omega) (by omega)
