section
set_option maxRecDepth 100000 in
set_option maxHeartbeats 4000000 in
theorem c_X9_leastAt {d : Nat} {t : TS} {s p : Int}  (ok : OK t) (q0 : WF t 69) (q1 : 0 ≤ s) (q2 : s ≤ 11) (q3 : 0 ≤ p) (q4 : p ≤ 11) : CI (EX FU (d + 5)) 166 [.ref 68, .int (jI s), .int (jI p)] (mk t) (fun z t' => OK t' ∧ Fr [(81, 100), (82, 100)] t t' ∧ (0 ≤ z) ∧ (z ≤ 198)) := by
  refine CI_ent (d := d + 4) (Bk := bX9_leastAt) (nL := 5) rfl rfl rfl (Nat.le_of_ble_eq_true rfl) ?_
  show Rn _ 1000000 0 [some (.ref 68), some (.int (jI s)), some (.int (jI p)), none, none] [] _ _
  have fr : Fr [(81, 100), (82, 100)] t t := Fr.rf _ _
  have hn0 := (ok.a (ax_69 nr_1)).1
  have hn1 := (ok.a (ax_69 nr_1)).2
  refine w_step rfl ?_
  refine w_aload rfl ?_
  refine w_iload rfl ?_
  refine w_iload rfl ?_
  refine w_push kc_0 ?_
  refine w_callV3I (oj_68 _).choose_spec rfl (c_X9_offOf ok q0 (by omega) (by omega) (by omega) (by omega) (by omega) (by omega)) ?_
  rintro z1 t1 ⟨ok1, fq1, hp1_0, hp1_1⟩
  have fr1 := fr.then fq1 (by simp)
  have wf1 := q0.fr fq1 (by simp)
  refine w_istore (lv' := [some (.ref 68), some (.int (jI s)), some (.int (jI p)), some (.int (jI z1)), none]) rfl ?_
  refine w_aload rfl ?_
  refine w_iload rfl ?_
  refine w_iload rfl ?_
  refine w_push kc_1 ?_
  refine w_callV3I (oj_68 _).choose_spec rfl (c_X9_offOf ok1 wf1 (by omega) (by omega) (by omega) (by omega) (by omega) (by omega)) ?_
  rintro z2 t2 ⟨ok2, fq2, hp2_0, hp2_1⟩
  have fr2 := fr1.then fq2 (by simp)
  have wf2 := wf1.fr fq2 (by simp)
  refine w_istore (lv' := [some (.ref 68), some (.int (jI s)), some (.int (jI p)), some (.int (jI z1)), some (.int (jI z2))]) rfl ?_
  refine w_iload rfl ?_
  refine w_iload rfl ?_
  refine w_cge (by omega) (fun h3 => ?_) (fun h3 => ?_)
  · skip
    refine w_step rfl ?_
    refine w_iload rfl ?_
    refine w_goto ?_
    refine w_step rfl ?_
    refine w_retI rfl ?_
    exact ⟨ok2, fr2, (by omega), (by omega)⟩
  refine w_iload rfl ?_
  refine w_goto ?_
  refine w_step rfl ?_
  refine w_retI rfl ?_
  exact ⟨ok2, fr2, (by omega), (by omega)⟩
set_option maxRecDepth 100000 in
set_option maxHeartbeats 4000000 in
theorem c_X9_bits {d : Nat} {t : TS} {x : Int}  (ok : OK t) (q0 : -2147483648 ≤ x) (q1 : x ≤ 2147483647) : CI (EX FU (d + 1)) 167 [.int (jI x)] (mk t) (fun z t' => t = t' ∧ (0 ≤ z) ∧ (z ≤ 12)) := by
  refine CI_ent (d := d + 0) (Bk := bX9_bits) (nL := 3) rfl rfl rfl (Nat.le_of_ble_eq_true rfl) ?_
  show Rn _ 1000000 0 [some (.int (jI x)), none, none] [] _ _
  refine w_step rfl ?_
  refine w_push kc_0 ?_
  refine w_istore (lv' := [some (.int (jI x)), some (.int (jI 0)), none]) rfl ?_
  refine w_push kc_0 ?_
  refine w_istore (lv' := [some (.int (jI x)), some (.int (jI 0)), some (.int (jI 0))]) rfl ?_
  refine w_goto ?_
  have key1 : ∀ (n1 M1 : Nat) (n : Int) (k : Int), (0 ≤ k) → (k ≤ 12) → (0 ≤ n) → (n ≤ k) → 12 - k < (n1 : Int) → 60 * n1 + (1000) ≤ M1 → Rn (bX9_bits (EX FU (d + 0))) M1 1 [some (.int (jI x)), some (.int (jI n)), some (.int (jI k))] [] (mk t) (PI (fun z t' => t = t' ∧ (0 ≤ z) ∧ (z ≤ 12))) := by
    intro n1
    induction n1 with
    | zero => intro M1 n k i1_0 i1_1 i1_2 i1_3 v1 f1; exfalso; omega
    | succ n1 ih1 =>
      intro M1 n k i1_0 i1_1 i1_2 i1_3 v1 f1
      obtain ⟨M1, rfl⟩ : ∃ m, M1 = m + 60 := ⟨M1 - 60, by omega⟩
      refine w_step rfl ?_
      refine w_iload rfl ?_
      refine w_push kc_12 ?_
      refine w_cge (by omega) (fun h1 => ?_) (fun h1 => ?_)
      · skip
        refine w_step rfl ?_
        refine w_iload rfl ?_
        refine w_retI rfl ?_
        exact ⟨rfl, (by omega), (by omega)⟩
      refine w_iload rfl ?_
      refine w_iload rfl ?_
      refine w_iload rfl ?_
      refine w_bin (fun z2 hz2 hl2 hh2 => ?_)
      refine w_push kc_1 ?_
      refine w_bin (fun z3 hz3 hl3 hh3 => ?_)
      have hu3 := ah_and1 hz3
      refine w_add ?_
      refine w_istore (lv' := [some (.int (jI x)), some (.int (jI (n + z3))), some (.int (jI k))]) rfl ?_
      refine w_iinc (lv' := [some (.int (jI x)), some (.int (jI (n + z3))), some (.int (jI (k + 1)))]) kc_1 rfl rfl ?_
      refine w_goto ?_
      exact ih1 _ (n + z3) (k + 1)  (by omega) (by omega) (by omega) (by omega) (by omega) (by omega)
  exact key1 13 _ 0 0  (by omega) (by omega) (by omega) (by omega) (by omega) (by omega)
set_option maxRecDepth 100000 in
set_option maxHeartbeats 4000000 in
theorem c_X9_layable {d : Nat} {t : TS} {m : Int}  (ok : OK t) (q0 : -2147483648 ≤ m) (q1 : m ≤ 2147483647) : CI (EX FU (d + 2)) 168 [.ref 68, .int (jI m)] (mk t) (fun z t' => t = t' ∧ (-2147483648 ≤ z) ∧ (z ≤ 2147483647)) := by
  refine CI_ent (d := d + 1) (Bk := bX9_layable) (nL := 4) rfl rfl rfl (Nat.le_of_ble_eq_true rfl) ?_
  show Rn _ 1000000 0 [some (.ref 68), some (.int (jI m)), none, none] [] _ _
  have hn0 := (ok.a (ax_69 nr_1)).1
  have hn1 := (ok.a (ax_69 nr_1)).2
  refine w_step rfl ?_
  refine w_push kc_0 ?_
  refine w_istore (lv' := [some (.ref 68), some (.int (jI m)), some (.int (jI 0)), none]) rfl ?_
  refine w_push kc_0 ?_
  refine w_istore (lv' := [some (.ref 68), some (.int (jI m)), some (.int (jI 0)), some (.int (jI 0))]) rfl ?_
  refine w_goto ?_
  have key1 : ∀ (n1 M1 : Nat) (x : Int) (s : Int), (-2147483648 ≤ x) → (x ≤ 2147483647) → (0 ≤ s) → (s ≤ 12) → 12 - s < (n1 : Int) → 60 * n1 + (1000) ≤ M1 → Rn (bX9_layable (EX FU (d + 1))) M1 1 [some (.ref 68), some (.int (jI m)), some (.int (jI x)), some (.int (jI s))] [] (mk t) (PI (fun z t' => t = t' ∧ (-2147483648 ≤ z) ∧ (z ≤ 2147483647))) := by
    intro n1
    induction n1 with
    | zero => intro M1 x s i1_0 i1_1 i1_2 i1_3 v1 f1; exfalso; omega
    | succ n1 ih1 =>
      intro M1 x s i1_0 i1_1 i1_2 i1_3 v1 f1
      obtain ⟨M1, rfl⟩ : ∃ m, M1 = m + 60 := ⟨M1 - 60, by omega⟩
      refine w_step rfl ?_
      refine w_iload rfl ?_
      refine w_aload rfl ?_
      refine w_getR (g_68_0 _) ?_
      refine w_push kc_1 ?_
      refine w_iald (i := 1) (ai_69 _) (by omega) (by omega) (ax_69 nr_1) ok (fun z1 hz1 hl1 hh1 => ?_)
      refine w_cge (by omega) (fun h2 => ?_) (fun h2 => ?_)
      · skip
        refine w_step rfl ?_
        refine w_iload rfl ?_
        refine w_retI rfl ?_
        exact ⟨rfl, (by omega), (by omega)⟩
      refine w_iload rfl ?_
      refine w_aload rfl ?_
      refine w_iload rfl ?_
      refine w_push kc_3 ?_
      refine w_callV2I (oj_68 _).choose_spec rfl (c_X9_of ok (by omega) (by omega) (by omega) (by omega)) ?_
      rintro z3 t3 ⟨rfl, hp3_0, hp3_1, hp3_2⟩
      have hr3 := of_r3 (s := s) ok (by omega)
      refine w_push kc_12 ?_
      refine w_ceq (by omega) (fun h4 => ?_) (fun h4 => ?_)
      · skip
        refine w_step rfl ?_
        refine w_push kc_1 ?_
        refine w_iload rfl ?_
        refine w_bin (fun z5 hz5 hl5 hh5 => ?_)
        refine w_goto ?_
        refine w_step rfl ?_
        refine w_bin (fun z6 hz6 hl6 hh6 => ?_)
        refine w_istore (lv' := [some (.ref 68), some (.int (jI m)), some (.int (jI z6)), some (.int (jI s))]) rfl ?_
        refine w_iinc (lv' := [some (.ref 68), some (.int (jI m)), some (.int (jI z6)), some (.int (jI (s + 1)))]) kc_1 rfl rfl ?_
        refine w_goto ?_
        exact ih1 _ z6 (s + 1)  (by omega) (by omega) (by omega) (by omega) (by omega) (by omega)
      refine w_aload rfl ?_
      refine w_iload rfl ?_
      refine w_push kc_3 ?_
      refine w_callV2I (oj_68 _).choose_spec rfl (c_X9_of ok (by omega) (by omega) (by omega) (by omega)) ?_
      rintro z7 t7 ⟨rfl, hp7_0, hp7_1, hp7_2⟩
      have hr7 := of_r3 (s := s) ok (by omega)
      refine w_iload rfl ?_
      refine w_cge (by omega) (fun h8 => ?_) (fun h8 => ?_)
      · skip
        refine w_step rfl ?_
        refine w_push kc_0 ?_
        refine w_goto ?_
        refine w_step rfl ?_
        refine w_bin (fun z9 hz9 hl9 hh9 => ?_)
        refine w_istore (lv' := [some (.ref 68), some (.int (jI m)), some (.int (jI z9)), some (.int (jI s))]) rfl ?_
        refine w_iinc (lv' := [some (.ref 68), some (.int (jI m)), some (.int (jI z9)), some (.int (jI (s + 1)))]) kc_1 rfl rfl ?_
        refine w_goto ?_
        exact ih1 _ z9 (s + 1)  (by omega) (by omega) (by omega) (by omega) (by omega) (by omega)
      refine w_goto ?_
      refine w_step rfl ?_
      refine w_push kc_1 ?_
      refine w_iload rfl ?_
      refine w_bin (fun z10 hz10 hl10 hh10 => ?_)
      refine w_goto ?_
      refine w_step rfl ?_
      refine w_bin (fun z11 hz11 hl11 hh11 => ?_)
      refine w_istore (lv' := [some (.ref 68), some (.int (jI m)), some (.int (jI z11)), some (.int (jI s))]) rfl ?_
      refine w_iinc (lv' := [some (.ref 68), some (.int (jI m)), some (.int (jI z11)), some (.int (jI (s + 1)))]) kc_1 rfl rfl ?_
      refine w_goto ?_
      exact ih1 _ z11 (s + 1)  (by omega) (by omega) (by omega) (by omega) (by omega) (by omega)
  exact key1 13 _ 0 0  (by omega) (by omega) (by omega) (by omega) (by omega) (by omega)
set_option maxRecDepth 100000 in
set_option maxHeartbeats 4000000 in
theorem c_X9_thinks {d : Nat} {t : TS}  (ok : OK t) : CV (EX FU (d + 1)) 176 [.ref 68] (mk t) (fun t' => OK t' ∧ Fr [(74, 100)] t t' ∧ (∀ i : Nat, i < 89 → tA t' 74 i = tA t 69 i)) := by
  refine CV_ent (d := d + 0) (Bk := bX9_thinks) (nL := 2) rfl rfl rfl (Nat.le_of_ble_eq_true rfl) ?_
  show Rn _ 1000000 0 [some (.ref 68), none] [] _ _
  have fr : Fr [(74, 100)] t t := Fr.rf _ _
  have hn0 := (ok.a (ax_69 nr_1)).1
  have hn1 := (ok.a (ax_69 nr_1)).2
  refine w_step rfl ?_
  refine w_push kc_0 ?_
  refine w_istore (lv' := [some (.ref 68), some (.int (jI 0))]) rfl ?_
  refine w_goto ?_
  have key1 : ∀ (n1 M1 : Nat) (i : Int) (t1 : TS), OK t1 → Fr [(74, 100)] t t1 → (0 ≤ i) → (i ≤ 89) → (∀ m : Nat, (m : Int) < i → tA t1 74 m = tA t 69 m) → 89 - i < (n1 : Int) → 60 * n1 + (1000) ≤ M1 → Rn (bX9_thinks (EX FU (d + 0))) M1 1 [some (.ref 68), some (.int (jI i))] [] (mk t1) (PV (fun t' => OK t' ∧ Fr [(74, 100)] t t' ∧ (∀ i : Nat, i < 89 → tA t' 74 i = tA t 69 i))) := by
    intro n1
    induction n1 with
    | zero => intro M1 i t1 ok1 fr1 i1_0 i1_1 i1_2 v1 f1; exfalso; omega
    | succ n1 ih1 =>
      intro M1 i t1 ok1 fr1 i1_0 i1_1 i1_2 v1 f1
      obtain ⟨M1, rfl⟩ : ∃ m, M1 = m + 60 := ⟨M1 - 60, by omega⟩
      have ea : ∀ m, tA t1 69 m = tA t 69 m := fun m => fr1.2.1 69 (by simp) m
      refine w_step rfl ?_
      refine w_iload rfl ?_
      refine w_push kc_89 ?_
      refine w_cge (by omega) (fun h2 => ?_) (fun h2 => ?_)
      · skip
        refine w_step rfl ?_
        refine w_retV ?_
        exact ⟨ok1, fr1, (fun i hi => i1_2 i (by omega))⟩
      refine w_aload rfl ?_
      refine w_getR (g_68_7 _) ?_
      refine w_iload rfl ?_
      refine w_aload rfl ?_
      refine w_getR (g_68_0 _) ?_
      refine w_iload rfl ?_
      refine w_iald (i := (i).toNat) (ai_69 _) (by omega) (by omega) (ae_69 _) ok1 (fun z3 hz3 hl3 hh3 => ?_)
      have hj3 := nr_jr (i).toNat
      refine w_iast (i := (i).toNat) (ai_74 _) rfl (by omega) (by omega) (ae_74 _) ok1 (by omega) (fun t4 ht4 ok4 => ?_)
      have fr4 := fr1.uA ht4 (by simp)
      refine w_iinc (lv' := [some (.ref 68), some (.int (jI (i + 1)))]) kc_1 rfl rfl ?_
      refine w_goto ?_
      exact ih1 _ (i + 1) t4 ok4 fr4 (by omega) (by omega) (by intro m hm; rw [ht4, tA_uA]; split <;> first | exact i1_2 m (by omega) | (rename_i q; rw [q.2, hz3]; exact ea _)) (by omega) (by omega)
  exact key1 90 _ 0 t ok fr (by omega) (by omega) (by intro m hm; omega) (by omega) (by omega)
set_option maxRecDepth 100000 in
set_option maxHeartbeats 4000000 in
theorem c_X9_darkAt {d : Nat} {t : TS} {c : Int}  (ok : OK t) (q0 : WF t 69) (q1 : 0 ≤ c) (q2 : c ≤ 23) : CI (EX FU (d + 4)) 182 [.ref 68, .int (jI c)] (mk t) (fun z t' => OK t' ∧ Fr [(81, 100), (82, 100)] t t' ∧ (0 ≤ z) ∧ (z ≤ 99)) := by
  refine CI_ent (d := d + 3) (Bk := bX9_darkAt) (nL := 4) rfl rfl rfl (Nat.le_of_ble_eq_true rfl) ?_
  show Rn _ 1000000 0 [some (.ref 68), some (.int (jI c)), none, none] [] _ _
  have fr : Fr [(81, 100), (82, 100)] t t := Fr.rf _ _
  have hn0 := (ok.a (ax_69 nr_1)).1
  have hn1 := (ok.a (ax_69 nr_1)).2
  refine w_step rfl ?_
  refine w_iload rfl ?_
  refine w_push kc_2 ?_
  refine w_div (by omega) ?_
  refine w_istore (lv' := [some (.ref 68), some (.int (jI c)), some (.int (jI (c / 2))), none]) rfl ?_
  refine w_aload rfl ?_
  refine w_iload rfl ?_
  refine w_callV1I (oj_68 _).choose_spec rfl (c_X9_holder ok (by omega) (by omega)) ?_
  rintro z1 t1 ⟨rfl, hp1_0, hp1_1⟩
  refine w_istore (lv' := [some (.ref 68), some (.int (jI c)), some (.int (jI (c / 2))), some (.int (jI z1))]) rfl ?_
  refine w_iload rfl ?_
  refine w_ige (by omega) (fun h2 => ?_) (fun h2 => ?_)
  · skip
    refine w_step rfl ?_
    refine w_aload rfl ?_
    refine w_iload rfl ?_
    refine w_aload rfl ?_
    refine w_iload rfl ?_
    refine w_iload rfl ?_
    refine w_push kc_2 ?_
    refine w_rem (by omega) ?_
    refine w_aload rfl ?_
    refine w_iload rfl ?_
    refine w_push kc_4 ?_
    refine w_callV2I (oj_68 _).choose_spec rfl (c_X9_of ok (by omega) (by omega) (by omega) (by omega)) ?_
    rintro z3 t3 ⟨rfl, hp3_0, hp3_1, hp3_2⟩
    have hr3 := of_r4 (s := z1) ok (by omega)
    refine w_callV3I (oj_68 _).choose_spec rfl (c_X9_spotsOf ok (by omega) (by omega) (by omega) (by omega) (by omega) (by omega)) ?_
    rintro z4 t4 ⟨rfl, hp4_0, hp4_1⟩
    refine w_iload rfl ?_
    refine w_push kc_3 ?_
    refine w_div (by omega) ?_
    refine w_callV3I (oj_68 _).choose_spec rfl (c_X9_darkOf ok q0 (by omega) (by omega) (by omega) (by omega) (by omega) (by omega)) ?_
    rintro z5 t5 ⟨ok5, fq5, hp5_0, hp5_1⟩
    have fr5 := fr.then fq5 (by simp)
    have wf5 := q0.fr fq5 (by simp)
    refine w_goto ?_
    refine w_step rfl ?_
    refine w_retI rfl ?_
    exact ⟨ok5, fr5, (by omega), (by omega)⟩
  refine w_push kc_0 ?_
  refine w_goto ?_
  refine w_step rfl ?_
  refine w_retI rfl ?_
  exact ⟨ok, fr, (by omega), (by omega)⟩
set_option maxRecDepth 100000 in
set_option maxHeartbeats 4000000 in
theorem c_X9_offBy {d : Nat} {t : TS} {k r : Int}  (ok : OK t) (q0 : WF t 69) (q1 : 0 ≤ k) (q2 : k ≤ 3) (q3 : 0 ≤ r) (q4 : r ≤ 3) : CL (EX FU (d + 5)) 183 [.ref 68, .int (jI k), .int (jI r)] (mk t) (fun z t' => OK t' ∧ Fr [(81, 100), (82, 100)] t t') := by
  refine CL_ent (d := d + 4) (Bk := bX9_offBy) (nL := 9) rfl rfl rfl (Nat.le_of_ble_eq_true rfl) ?_
  show Rn _ 1000000 0 [some (.ref 68), some (.int (jI k)), some (.int (jI r)), none, none, none, none, none, none] [] _ _
  have fr : Fr [(81, 100), (82, 100)] t t := Fr.rf _ _
  have hn0 := (ok.a (ax_69 nr_1)).1
  have hn1 := (ok.a (ax_69 nr_1)).2
  refine w_step rfl ?_
  refine w_pushV ?_
  refine w_lstore (lv' := [some (.ref 68), some (.int (jI k)), some (.int (jI r)), some (.long 0), none, none, none, none, none]) rfl ?_
  refine w_push kc_0 ?_
  refine w_istore (lv' := [some (.ref 68), some (.int (jI k)), some (.int (jI r)), some (.long 0), none, some (.int (jI 0)), none, none, none]) rfl ?_
  refine w_goto ?_
  have key1 : ∀ (n1 M1 : Nat) (sum : Int64) (i : Int) (o6 : Option Int) (o7 : Option Int64) (t1 : TS), OK t1 → Fr [(81, 100), (82, 100)] t t1 → WF t1 69 → (0 ≤ i) → (i ≤ 24) → 24 - i < (n1 : Int) → 60 * n1 + (1000) ≤ M1 → Rn (bX9_offBy (EX FU (d + 4))) M1 1 [some (.ref 68), some (.int (jI k)), some (.int (jI r)), some (.long sum), none, some (.int (jI i)), dv o6, dl o7, none] [] (mk t1) (PL (fun z t' => OK t' ∧ Fr [(81, 100), (82, 100)] t t')) := by
    intro n1
    induction n1 with
    | zero => intro M1 sum i o6 o7 t1 ok1 fr1 wf1 i1_0 i1_1 v1 f1; exfalso; omega
    | succ n1 ih1 =>
      intro M1 sum i o6 o7 t1 ok1 fr1 wf1 i1_0 i1_1 v1 f1
      obtain ⟨M1, rfl⟩ : ∃ m, M1 = m + 60 := ⟨M1 - 60, by omega⟩
      refine w_step rfl ?_
      refine w_iload rfl ?_
      refine w_aload rfl ?_
      refine w_getR (g_68_27 _) ?_
      refine w_iload rfl ?_
      refine w_iald (i := (k).toNat) (ai_84 _) (by omega) (by omega) (ae_84 _) ok1 (fun z2 hz2 hl2 hh2 => ?_)
      refine w_cge (by omega) (fun h3 => ?_) (fun h3 => ?_)
      · skip
        refine w_step rfl ?_
        refine w_lload rfl ?_
        refine w_retL rfl ?_
        exact ⟨ok1, fr1⟩
      refine w_aload rfl ?_
      refine w_getR (g_68_28 _) ?_
      refine w_push kc_24 ?_
      refine w_iload rfl ?_
      refine w_mul ?_
      refine w_iload rfl ?_
      refine w_add ?_
      refine w_iald (i := (((24 * k) + i)).toNat) (ai_85 _) (by omega) (by omega) (ae_85 _) ok1 (fun z4 hz4 hl4 hh4 => ?_)
      refine w_istore (lv' := [some (.ref 68), some (.int (jI k)), some (.int (jI r)), some (.long sum), none, some (.int (jI i)), some (.int (jI z4)), dl o7, none]) rfl ?_
      refine w_iload rfl ?_
      refine w_i2l (fun z5 => ?_)
      refine w_iload rfl ?_
      refine w_push kc_6 ?_
      refine w_cge (by omega) (fun h6 => ?_) (fun h6 => ?_)
      · skip
        refine w_step rfl ?_
        refine w_push kc_0 ?_
        refine w_goto ?_
        refine w_step rfl ?_
        refine w_i2l (fun z7 => ?_)
        refine w_lbin (fun z8 => ?_)
        refine w_lstore (lv' := [some (.ref 68), some (.int (jI k)), some (.int (jI r)), some (.long sum), none, some (.int (jI i)), some (.int (jI z4)), some (.long z8), none]) rfl ?_
        refine w_lload rfl ?_
        refine w_iload rfl ?_
        refine w_push kc_m1000000005 ?_
        refine w_cne (by omega) (fun h9 => ?_) (fun h9 => ?_)
        · skip
          refine w_step rfl ?_
          refine w_lload rfl ?_
          refine w_pushV ?_
          refine w_lcmp (fun z10 hl10 hh10 => ?_)
          refine w_ige (by omega) (fun h11 => ?_) (fun h11 => ?_)
          · skip
            refine w_step rfl ?_
            refine w_lload rfl ?_
            refine w_goto ?_
            refine w_step rfl ?_
            refine w_lbin (fun z12 => ?_)
            refine w_lstore (lv' := [some (.ref 68), some (.int (jI k)), some (.int (jI r)), some (.long z12), none, some (.int (jI i)), some (.int (jI z4)), some (.long z8), none]) rfl ?_
            refine w_iinc (lv' := [some (.ref 68), some (.int (jI k)), some (.int (jI r)), some (.long z12), none, some (.int (jI (i + 1))), some (.int (jI z4)), some (.long z8), none]) kc_1 rfl rfl ?_
            refine w_goto ?_
            exact ih1 _ z12 (i + 1) (some z4) (some z8) t1 ok1 fr1 wf1 (by omega) (by omega) (by omega) (by omega)
          refine w_lload rfl ?_
          refine w_lneg (fun z13 => ?_)
          refine w_goto ?_
          refine w_step rfl ?_
          refine w_lbin (fun z14 => ?_)
          refine w_lstore (lv' := [some (.ref 68), some (.int (jI k)), some (.int (jI r)), some (.long z14), none, some (.int (jI i)), some (.int (jI z4)), some (.long z8), none]) rfl ?_
          refine w_iinc (lv' := [some (.ref 68), some (.int (jI k)), some (.int (jI r)), some (.long z14), none, some (.int (jI (i + 1))), some (.int (jI z4)), some (.long z8), none]) kc_1 rfl rfl ?_
          refine w_goto ?_
          exact ih1 _ z14 (i + 1) (some z4) (some z8) t1 ok1 fr1 wf1 (by omega) (by omega) (by omega) (by omega)
        refine w_pushV ?_
        refine w_goto ?_
        refine w_step rfl ?_
        refine w_lbin (fun z15 => ?_)
        refine w_lstore (lv' := [some (.ref 68), some (.int (jI k)), some (.int (jI r)), some (.long z15), none, some (.int (jI i)), some (.int (jI z4)), some (.long z8), none]) rfl ?_
        refine w_iinc (lv' := [some (.ref 68), some (.int (jI k)), some (.int (jI r)), some (.long z15), none, some (.int (jI (i + 1))), some (.int (jI z4)), some (.long z8), none]) kc_1 rfl rfl ?_
        refine w_goto ?_
        exact ih1 _ z15 (i + 1) (some z4) (some z8) t1 ok1 fr1 wf1 (by omega) (by omega) (by omega) (by omega)
      refine w_aload rfl ?_
      refine w_push kc_6 ?_
      refine w_iload rfl ?_
      refine w_mul ?_
      refine w_iload rfl ?_
      refine w_add ?_
      refine w_callV1I (oj_68 _).choose_spec rfl (c_X9_darkAt ok1 wf1 (by omega) (by omega)) ?_
      rintro z16 t16 ⟨ok16, fq16, hp16_0, hp16_1⟩
      have fr16 := fr1.then fq16 (by simp)
      have wf16 := wf1.fr fq16 (by simp)
      refine w_goto ?_
      refine w_step rfl ?_
      refine w_i2l (fun z17 => ?_)
      refine w_lbin (fun z18 => ?_)
      refine w_lstore (lv' := [some (.ref 68), some (.int (jI k)), some (.int (jI r)), some (.long sum), none, some (.int (jI i)), some (.int (jI z4)), some (.long z18), none]) rfl ?_
      refine w_lload rfl ?_
      refine w_iload rfl ?_
      refine w_push kc_m1000000005 ?_
      refine w_cne (by omega) (fun h19 => ?_) (fun h19 => ?_)
      · skip
        refine w_step rfl ?_
        refine w_lload rfl ?_
        refine w_pushV ?_
        refine w_lcmp (fun z20 hl20 hh20 => ?_)
        refine w_ige (by omega) (fun h21 => ?_) (fun h21 => ?_)
        · skip
          refine w_step rfl ?_
          refine w_lload rfl ?_
          refine w_goto ?_
          refine w_step rfl ?_
          refine w_lbin (fun z22 => ?_)
          refine w_lstore (lv' := [some (.ref 68), some (.int (jI k)), some (.int (jI r)), some (.long z22), none, some (.int (jI i)), some (.int (jI z4)), some (.long z18), none]) rfl ?_
          refine w_iinc (lv' := [some (.ref 68), some (.int (jI k)), some (.int (jI r)), some (.long z22), none, some (.int (jI (i + 1))), some (.int (jI z4)), some (.long z18), none]) kc_1 rfl rfl ?_
          refine w_goto ?_
          exact ih1 _ z22 (i + 1) (some z4) (some z18) t16 ok16 fr16 wf16 (by omega) (by omega) (by omega) (by omega)
        refine w_lload rfl ?_
        refine w_lneg (fun z23 => ?_)
        refine w_goto ?_
        refine w_step rfl ?_
        refine w_lbin (fun z24 => ?_)
        refine w_lstore (lv' := [some (.ref 68), some (.int (jI k)), some (.int (jI r)), some (.long z24), none, some (.int (jI i)), some (.int (jI z4)), some (.long z18), none]) rfl ?_
        refine w_iinc (lv' := [some (.ref 68), some (.int (jI k)), some (.int (jI r)), some (.long z24), none, some (.int (jI (i + 1))), some (.int (jI z4)), some (.long z18), none]) kc_1 rfl rfl ?_
        refine w_goto ?_
        exact ih1 _ z24 (i + 1) (some z4) (some z18) t16 ok16 fr16 wf16 (by omega) (by omega) (by omega) (by omega)
      refine w_pushV ?_
      refine w_goto ?_
      refine w_step rfl ?_
      refine w_lbin (fun z25 => ?_)
      refine w_lstore (lv' := [some (.ref 68), some (.int (jI k)), some (.int (jI r)), some (.long z25), none, some (.int (jI i)), some (.int (jI z4)), some (.long z18), none]) rfl ?_
      refine w_iinc (lv' := [some (.ref 68), some (.int (jI k)), some (.int (jI r)), some (.long z25), none, some (.int (jI (i + 1))), some (.int (jI z4)), some (.long z18), none]) kc_1 rfl rfl ?_
      refine w_goto ?_
      exact ih1 _ z25 (i + 1) (some z4) (some z18) t16 ok16 fr16 wf16 (by omega) (by omega) (by omega) (by omega)
  exact key1 25 _ 0 0 none none t ok fr q0 (by omega) (by omega) (by omega) (by omega)
set_option maxRecDepth 100000 in
set_option maxHeartbeats 4000000 in
theorem c_X9_best {d : Nat} {t : TS} {m w : Int}  (ok : OK t) (q0 : WF t 69) (q1 : -2147483648 ≤ m) (q2 : m ≤ 2147483647) (q3 : -2147483648 ≤ w) (q4 : w ≤ 2147483647) : CI (EX FU (d + 6)) 169 [.ref 68, .int (jI m), .int (jI w)] (mk t) (fun z t' => OK t' ∧ Fr [(81, 100), (82, 100), (72, 100), (73, 100)] t t' ∧ (-2147483648 ≤ z) ∧ (z ≤ 2147483647)) := by
  refine CI_ent (d := d + 5) (Bk := bX9_best) (nL := 13) rfl rfl rfl (Nat.le_of_ble_eq_true rfl) ?_
  show Rn _ 1000000 0 [some (.ref 68), some (.int (jI m)), some (.int (jI w)), none, none, none, none, none, none, none, none, none, none] [] _ _
  have fr : Fr [(81, 100), (82, 100), (72, 100), (73, 100)] t t := Fr.rf _ _
  have hn0 := (ok.a (ax_69 nr_1)).1
  have hn1 := (ok.a (ax_69 nr_1)).2
  obtain ⟨BIG, hBIG⟩ : ∃ q : Nat, q = 800000 := ⟨_, rfl⟩
  refine w_step rfl ?_
  refine w_iload rfl ?_
  refine w_push kc_1 ?_
  refine w_push kc_6 ?_
  refine w_callS3I rfl (c_X9_in ok (by omega) (by omega) (by omega) (by omega) (by omega) (by omega)) ?_
  rintro z1 t1 ⟨rfl, hp1_0⟩
  rcases hp1_0 with ⟨rfl, hp1_0⟩ | ⟨rfl, hp1_0⟩
  · skip
    refine w_ieq (by omega) (fun _ => ?_) (fun h => absurd (by omega) h)
    refine w_step rfl ?_
    refine w_push kc_m1000000001 ?_
    refine w_retI rfl ?_
    exact ⟨ok, fr, (by omega), (by omega)⟩
  refine w_ieq (by omega) (fun h => absurd h (by omega)) (fun _ => ?_)
  refine w_iload rfl ?_
  refine w_push kc_0 ?_
  refine w_push kc_1 ?_
  refine w_callS3I rfl (c_X9_in ok (by omega) (by omega) (by omega) (by omega) (by omega) (by omega)) ?_
  rintro z2 t2 ⟨rfl, hp2_0⟩
  rcases hp2_0 with ⟨rfl, hp2_0⟩ | ⟨rfl, hp2_0⟩
  · skip
    refine w_ine (by omega) (fun h => absurd h (by omega)) (fun _ => ?_)
    refine w_goto ?_
    refine w_step rfl ?_
    refine w_push kc_m1000000001 ?_
    refine w_retI rfl ?_
    exact ⟨ok, fr, (by omega), (by omega)⟩
  refine w_ine (by omega) (fun _ => ?_) (fun h => absurd (by omega) h)
  refine w_step rfl ?_
  refine w_aload rfl ?_
  refine w_iload rfl ?_
  refine w_callV1I (oj_68 _).choose_spec rfl (c_X9_layable ok (by omega) (by omega)) ?_
  rintro z3 t3 ⟨rfl, hp3_0, hp3_1⟩
  refine w_istore (lv' := [some (.ref 68), some (.int (jI m)), some (.int (jI w)), some (.int (jI z3)), none, none, none, none, none, none, none, none, none]) rfl ?_
  refine w_push kc_0 ?_
  refine w_istore (lv' := [some (.ref 68), some (.int (jI m)), some (.int (jI w)), some (.int (jI z3)), some (.int (jI 0)), none, none, none, none, none, none, none, none]) rfl ?_
  refine w_goto ?_
  have key3 : ∀ (n3 M3 : Nat) (s : Int) (o5 : Option Int) (t4 : TS), OK t4 → Fr [(81, 100), (82, 100), (72, 100), (73, 100)] t t4 → WF t4 69 → (0 ≤ s) → (s ≤ 12) → 12 - s < (n3 : Int) → 200 * n3 + (BIG) ≤ M3 → Rn (bX9_best (EX FU (d + 5))) M3 3 [some (.ref 68), some (.int (jI m)), some (.int (jI w)), some (.int (jI z3)), some (.int (jI s)), dv o5, none, none, none, none, none, none, none] [] (mk t4) (PI (fun z t' => OK t' ∧ Fr [(81, 100), (82, 100), (72, 100), (73, 100)] t t' ∧ (-2147483648 ≤ z) ∧ (z ≤ 2147483647))) := by
    intro n3
    induction n3 with
    | zero => intro M3 s o5 t4 ok4 fr4 wf4 i3_0 i3_1 v3 f3; exfalso; omega
    | succ n3 ih3 =>
      intro M3 s o5 t4 ok4 fr4 wf4 i3_0 i3_1 v3 f3
      obtain ⟨M3, rfl⟩ : ∃ m, M3 = m + 200 := ⟨M3 - 200, by omega⟩
      refine w_step rfl ?_
      refine w_iload rfl ?_
      refine w_aload rfl ?_
      refine w_getR (g_68_0 _) ?_
      refine w_push kc_1 ?_
      refine w_iald (i := 1) (ai_69 _) (by omega) (by omega) (ax_69 nr_1) ok4 (fun z5 hz5 hl5 hh5 => ?_)
      refine w_cge (by omega) (fun h6 => ?_) (fun h6 => ?_)
      · skip
        refine w_step rfl ?_
        refine w_push kc_1 ?_
        refine w_aload rfl ?_
        refine w_getR (g_68_0 _) ?_
        refine w_push kc_1 ?_
        refine w_iald (i := 1) (ai_69 _) (by omega) (by omega) (ax_69 nr_1) ok4 (fun z7 hz7 hl7 hh7 => ?_)
        have eN : z7 = tA t 69 1 := by rw [hz7, fr4.2.1 69 (by simp)]
        refine w_bin (fun z8 hz8 hl8 hh8 => ?_)
        have hu8 := shl_r (by omega) hz8
        have eE := hz8
        rw [eN] at eE
        refine w_istore (lv' := [some (.ref 68), some (.int (jI m)), some (.int (jI w)), some (.int (jI z3)), some (.int (jI z8)), dv o5, none, none, none, none, none, none, none]) rfl ?_
        refine w_push kc_0 ?_
        refine w_istore (lv' := [some (.ref 68), some (.int (jI m)), some (.int (jI w)), some (.int (jI z3)), some (.int (jI z8)), some (.int (jI 0)), none, none, none, none, none, none, none]) rfl ?_
        refine w_goto ?_
        have key7 : ∀ (n7 M7 : Nat) (e : Int) (t9 : TS), OK t9 → Fr [(81, 100), (82, 100), (72, 100), (73, 100)] t t9 → WF t9 69 → (0 ≤ e) → (e ≤ 4096) → 4096 - e < (n7 : Int) → 5 * n7 + (700000) ≤ M7 → Rn (bX9_best (EX FU (d + 5))) M7 7 [some (.ref 68), some (.int (jI m)), some (.int (jI w)), some (.int (jI z3)), some (.int (jI z8)), some (.int (jI e)), none, none, none, none, none, none, none] [] (mk t9) (PI (fun z t' => OK t' ∧ Fr [(81, 100), (82, 100), (72, 100), (73, 100)] t t' ∧ (-2147483648 ≤ z) ∧ (z ≤ 2147483647))) := by
          intro n7
          induction n7 with
          | zero => intro M7 e t9 ok9 fr9 wf9 i7_0 i7_1 v7 f7; exfalso; omega
          | succ n7 ih7 =>
            intro M7 e t9 ok9 fr9 wf9 i7_0 i7_1 v7 f7
            obtain ⟨M7, rfl⟩ : ∃ m, M7 = m + 5 := ⟨M7 - 5, by omega⟩
            refine w_step rfl ?_
            refine w_iload rfl ?_
            refine w_iload rfl ?_
            refine w_cge (by omega) (fun h10 => ?_) (fun h10 => ?_)
            · skip
              refine w_step rfl ?_
              refine w_push kc_m1 ?_
              refine w_istore (lv' := [some (.ref 68), some (.int (jI m)), some (.int (jI w)), some (.int (jI z3)), some (.int (jI z8)), some (.int (jI (-1))), none, none, none, none, none, none, none]) rfl ?_
              refine w_push kc_0 ?_
              refine w_istore (lv' := [some (.ref 68), some (.int (jI m)), some (.int (jI w)), some (.int (jI z3)), some (.int (jI z8)), some (.int (jI (-1))), some (.int (jI 0)), none, none, none, none, none, none]) rfl ?_
              refine w_push kc_0 ?_
              refine w_istore (lv' := [some (.ref 68), some (.int (jI m)), some (.int (jI w)), some (.int (jI z3)), some (.int (jI z8)), some (.int (jI (-1))), some (.int (jI 0)), some (.int (jI 0)), none, none, none, none, none]) rfl ?_
              refine w_goto ?_
              have key11 : ∀ (n11 M11 : Nat) (best : Int) (least : Int) (e : Int) (o8 : Option Int) (o9 : Option Int) (o10 : Option Int) (o11 : Option Int) (o12 : Option Int) (t11 : TS), OK t11 → Fr [(81, 100), (82, 100), (72, 100), (73, 100)] t t11 → WF t11 69 → (-1 ≤ best) → (best ≤ 11) → (-2147483648 ≤ least) → (least ≤ 2147483647) → (0 ≤ e) → (e ≤ 4096) → 4096 - e < (n11 : Int) → 150 * n11 + (1000) ≤ M11 → Rn (bX9_best (EX FU (d + 5))) M11 11 [some (.ref 68), some (.int (jI m)), some (.int (jI w)), some (.int (jI z3)), some (.int (jI z8)), some (.int (jI best)), some (.int (jI least)), some (.int (jI e)), dv o8, dv o9, dv o10, dv o11, dv o12] [] (mk t11) (PI (fun z t' => OK t' ∧ Fr [(81, 100), (82, 100), (72, 100), (73, 100)] t t' ∧ (-2147483648 ≤ z) ∧ (z ≤ 2147483647))) := by
                intro n11
                induction n11 with
                | zero => intro M11 best least e o8 o9 o10 o11 o12 t11 ok11 fr11 wf11 i11_0 i11_1 i11_2 i11_3 i11_4 i11_5 v11 f11; exfalso; omega
                | succ n11 ih11 =>
                  intro M11 best least e o8 o9 o10 o11 o12 t11 ok11 fr11 wf11 i11_0 i11_1 i11_2 i11_3 i11_4 i11_5 v11 f11
                  obtain ⟨M11, rfl⟩ : ∃ m, M11 = m + 150 := ⟨M11 - 150, by omega⟩
                  refine w_step rfl ?_
                  refine w_iload rfl ?_
                  refine w_iload rfl ?_
                  refine w_cge (by omega) (fun h12 => ?_) (fun h12 => ?_)
                  · skip
                    refine w_step rfl ?_
                    refine w_iload rfl ?_
                    refine w_ige (by omega) (fun h13 => ?_) (fun h13 => ?_)
                    · skip
                      refine w_step rfl ?_
                      refine w_iload rfl ?_
                      refine w_ine (by omega) (fun h14 => ?_) (fun h14 => ?_)
                      · skip
                        refine w_step rfl ?_
                        refine w_iload rfl ?_
                        refine w_goto ?_
                        refine w_step rfl ?_
                        refine w_retI rfl ?_
                        exact ⟨ok11, fr11, (by omega), (by omega)⟩
                      refine w_iload rfl ?_
                      refine w_goto ?_
                      refine w_step rfl ?_
                      refine w_retI rfl ?_
                      exact ⟨ok11, fr11, (by omega), (by omega)⟩
                    refine w_push kc_m1000000005 ?_
                    refine w_goto ?_
                    refine w_step rfl ?_
                    refine w_retI rfl ?_
                    exact ⟨ok11, fr11, (by omega), (by omega)⟩
                  refine w_iload rfl ?_
                  refine w_push kc_1 ?_
                  refine w_sub ?_
                  refine w_iload rfl ?_
                  refine w_callS1I rfl (c_X9_bits ok11 (by omega) (by omega)) ?_
                  rintro z15 t15 ⟨rfl, hp15_0, hp15_1⟩
                  refine w_sub ?_
                  refine w_istore (lv' := [some (.ref 68), some (.int (jI m)), some (.int (jI w)), some (.int (jI z3)), some (.int (jI z8)), some (.int (jI best)), some (.int (jI least)), some (.int (jI e)), some (.int (jI ((m - 1) - z15))), dv o9, dv o10, dv o11, dv o12]) rfl ?_
                  refine w_push kc_0 ?_
                  refine w_istore (lv' := [some (.ref 68), some (.int (jI m)), some (.int (jI w)), some (.int (jI z3)), some (.int (jI z8)), some (.int (jI best)), some (.int (jI least)), some (.int (jI e)), some (.int (jI ((m - 1) - z15))), some (.int (jI 0)), dv o10, dv o11, dv o12]) rfl ?_
                  refine w_goto ?_
                  have key12 : ∀ (n12 M12 : Nat) (best : Int) (least : Int) (s : Int) (o10 : Option Int) (o11 : Option Int) (o12 : Option Int) (t16 : TS), OK t16 → Fr [(81, 100), (82, 100), (72, 100), (73, 100)] t t16 → WF t16 69 → (-1 ≤ best) → (best ≤ 11) → (-2147483648 ≤ least) → (least ≤ 2147483647) → (0 ≤ s) → (s ≤ 12) → 12 - s < (n12 : Int) → 11 * n12 + (150 * n11 + 1000) ≤ M12 → Rn (bX9_best (EX FU (d + 5))) M12 12 [some (.ref 68), some (.int (jI m)), some (.int (jI w)), some (.int (jI z3)), some (.int (jI z8)), some (.int (jI best)), some (.int (jI least)), some (.int (jI e)), some (.int (jI ((m - 1) - z15))), some (.int (jI s)), dv o10, dv o11, dv o12] [] (mk t16) (PI (fun z t' => OK t' ∧ Fr [(81, 100), (82, 100), (72, 100), (73, 100)] t t' ∧ (-2147483648 ≤ z) ∧ (z ≤ 2147483647))) := by
                    intro n12
                    induction n12 with
                    | zero => intro M12 best least s o10 o11 o12 t16 ok16 fr16 wf16 i12_0 i12_1 i12_2 i12_3 i12_4 i12_5 v12 f12; exfalso; omega
                    | succ n12 ih12 =>
                      intro M12 best least s o10 o11 o12 t16 ok16 fr16 wf16 i12_0 i12_1 i12_2 i12_3 i12_4 i12_5 v12 f12
                      obtain ⟨M12, rfl⟩ : ∃ m, M12 = m + 11 := ⟨M12 - 11, by omega⟩
                      refine w_step rfl ?_
                      refine w_iload rfl ?_
                      refine w_aload rfl ?_
                      refine w_getR (g_68_0 _) ?_
                      refine w_push kc_1 ?_
                      refine w_iald (i := 1) (ai_69 _) (by omega) (by omega) (ax_69 nr_1) ok16 (fun z17 hz17 hl17 hh17 => ?_)
                      have eM : z17 = tA t 69 1 := by rw [hz17, fr16.2.1 69 (by simp)]
                      refine w_cge (by omega) (fun h18 => ?_) (fun h18 => ?_)
                      · skip
                        refine w_step rfl ?_
                        refine w_iinc (lv' := [some (.ref 68), some (.int (jI m)), some (.int (jI w)), some (.int (jI z3)), some (.int (jI z8)), some (.int (jI best)), some (.int (jI least)), some (.int (jI (e + 1))), some (.int (jI ((m - 1) - z15))), some (.int (jI s)), dv o10, dv o11, dv o12]) kc_1 rfl rfl ?_
                        refine w_goto ?_
                        exact ih11 _ best least (e + 1) (some ((m - 1) - z15)) (some s) o10 o11 o12 t16 ok16 fr16 wf16 (by omega) (by omega) (by omega) (by omega) (by omega) (by omega) (by omega) (by omega)
                      refine w_iload rfl ?_
                      refine w_ilt (by omega) (fun h19 => ?_) (fun h19 => ?_)
                      · skip
                        refine w_step rfl ?_
                        refine w_iinc (lv' := [some (.ref 68), some (.int (jI m)), some (.int (jI w)), some (.int (jI z3)), some (.int (jI z8)), some (.int (jI best)), some (.int (jI least)), some (.int (jI (e + 1))), some (.int (jI ((m - 1) - z15))), some (.int (jI s)), dv o10, dv o11, dv o12]) kc_1 rfl rfl ?_
                        refine w_goto ?_
                        exact ih11 _ best least (e + 1) (some ((m - 1) - z15)) (some s) o10 o11 o12 t16 ok16 fr16 wf16 (by omega) (by omega) (by omega) (by omega) (by omega) (by omega) (by omega) (by omega)
                      refine w_aload rfl ?_
                      refine w_getR (g_68_5 _) ?_
                      refine w_iload rfl ?_
                      refine w_iald (i := (e).toNat) (ai_72 _) (by omega) (by omega) (ae_72 _) ok16 (fun z20 hz20 hl20 hh20 => ?_)
                      refine w_ilt (by omega) (fun h21 => ?_) (fun h21 => ?_)
                      · skip
                        refine w_step rfl ?_
                        refine w_iinc (lv' := [some (.ref 68), some (.int (jI m)), some (.int (jI w)), some (.int (jI z3)), some (.int (jI z8)), some (.int (jI best)), some (.int (jI least)), some (.int (jI (e + 1))), some (.int (jI ((m - 1) - z15))), some (.int (jI s)), dv o10, dv o11, dv o12]) kc_1 rfl rfl ?_
                        refine w_goto ?_
                        exact ih11 _ best least (e + 1) (some ((m - 1) - z15)) (some s) o10 o11 o12 t16 ok16 fr16 wf16 (by omega) (by omega) (by omega) (by omega) (by omega) (by omega) (by omega) (by omega)
                      refine w_iload rfl ?_
                      refine w_iload rfl ?_
                      refine w_push kc_m1 ?_
                      refine w_bin (fun z22 hz22 hl22 hh22 => ?_)
                      refine w_bin (fun z23 hz23 hl23 hh23 => ?_)
                      refine w_push kc_1 ?_
                      refine w_iload rfl ?_
                      refine w_bin (fun z24 hz24 hl24 hh24 => ?_)
                      refine w_bin (fun z25 hz25 hl25 hh25 => ?_)
                      refine w_ieq (by omega) (fun h26 => ?_) (fun h26 => ?_)
                      · skip
                        refine w_step rfl ?_
                        refine w_iinc (lv' := [some (.ref 68), some (.int (jI m)), some (.int (jI w)), some (.int (jI z3)), some (.int (jI z8)), some (.int (jI best)), some (.int (jI least)), some (.int (jI e)), some (.int (jI ((m - 1) - z15))), some (.int (jI (s + 1))), dv o10, dv o11, dv o12]) kc_1 rfl rfl ?_
                        refine w_goto ?_
                        exact ih12 _ best least (s + 1) o10 o11 o12 t16 ok16 fr16 wf16 (by omega) (by omega) (by omega) (by omega) (by omega) (by omega) (by omega) (by omega)
                      refine w_aload rfl ?_
                      refine w_getR (g_68_5 _) ?_
                      refine w_iload rfl ?_
                      refine w_iald (i := (e).toNat) (ai_72 _) (by omega) (by omega) (ae_72 _) ok16 (fun z27 hz27 hl27 hh27 => ?_)
                      refine w_aload rfl ?_
                      refine w_getR (g_68_6 _) ?_
                      refine w_push kc_12 ?_
                      refine w_iload rfl ?_
                      refine w_mul ?_
                      refine w_iload rfl ?_
                      refine w_add ?_
                      refine w_iald (i := (((12 * s) + ((m - 1) - z15))).toNat) (ai_73 _) (by omega) (by omega) (ae_73 _) ok16 (fun z28 hz28 hl28 hh28 => ?_)
                      refine w_addW (fun z29 hz29 hl29 hh29 => ?_)
                      refine w_istore (lv' := [some (.ref 68), some (.int (jI m)), some (.int (jI w)), some (.int (jI z3)), some (.int (jI z8)), some (.int (jI best)), some (.int (jI least)), some (.int (jI e)), some (.int (jI ((m - 1) - z15))), some (.int (jI s)), some (.int (jI z29)), dv o11, dv o12]) rfl ?_
                      refine w_iload rfl ?_
                      refine w_push kc_1 ?_
                      refine w_iload rfl ?_
                      refine w_bin (fun z30 hz30 hl30 hh30 => ?_)
                      have hL := hz30
                      refine w_bin (fun z31 hz31 hl31 hh31 => ?_)
                      have hO := or_lt (n := tA t 69 1) (by omega) (by omega) eE (by omega) hL hz31
                      refine w_istore (lv' := [some (.ref 68), some (.int (jI m)), some (.int (jI w)), some (.int (jI z3)), some (.int (jI z8)), some (.int (jI best)), some (.int (jI least)), some (.int (jI e)), some (.int (jI ((m - 1) - z15))), some (.int (jI s)), some (.int (jI z29)), some (.int (jI z31)), dv o12]) rfl ?_
                      refine w_iload rfl ?_
                      refine w_ine (by omega) (fun h32 => ?_) (fun h32 => ?_)
                      · skip
                        refine w_step rfl ?_
                        refine w_aload rfl ?_
                        refine w_getR (g_68_5 _) ?_
                        refine w_iload rfl ?_
                        refine w_iald (i := (z31).toNat) (ai_72 _) (by omega) (by omega) (ae_72 _) ok16 (fun z33 hz33 hl33 hh33 => ?_)
                        refine w_ilt (by omega) (fun h34 => ?_) (fun h34 => ?_)
                        · skip
                          refine w_step rfl ?_
                          refine w_aload rfl ?_
                          refine w_getR (g_68_5 _) ?_
                          refine w_iload rfl ?_
                          refine w_iload rfl ?_
                          refine w_iast (i := (z31).toNat) (ai_72 _) rfl (by omega) (by omega) (ae_72 _) ok16 (by omega) (fun t35 ht35 ok35 => ?_)
                          have fr35 := fr16.uA ht35 (by simp)
                          have wf35 := wf16.uAo ht35 (by decide)
                          refine w_goto ?_
                          refine w_step rfl ?_
                          refine w_iinc (lv' := [some (.ref 68), some (.int (jI m)), some (.int (jI w)), some (.int (jI z3)), some (.int (jI z8)), some (.int (jI best)), some (.int (jI least)), some (.int (jI e)), some (.int (jI ((m - 1) - z15))), some (.int (jI (s + 1))), some (.int (jI z29)), some (.int (jI z31)), dv o12]) kc_1 rfl rfl ?_
                          refine w_goto ?_
                          exact ih12 _ best least (s + 1) (some z29) (some z31) o12 t35 ok35 fr35 wf35 (by omega) (by omega) (by omega) (by omega) (by omega) (by omega) (by omega) (by omega)
                        refine w_iload rfl ?_
                        refine w_aload rfl ?_
                        refine w_getR (g_68_5 _) ?_
                        refine w_iload rfl ?_
                        refine w_iald (i := (z31).toNat) (ai_72 _) (by omega) (by omega) (ae_72 _) ok16 (fun z36 hz36 hl36 hh36 => ?_)
                        refine w_cge (by omega) (fun h37 => ?_) (fun h37 => ?_)
                        · skip
                          refine w_step rfl ?_
                          refine w_iinc (lv' := [some (.ref 68), some (.int (jI m)), some (.int (jI w)), some (.int (jI z3)), some (.int (jI z8)), some (.int (jI best)), some (.int (jI least)), some (.int (jI e)), some (.int (jI ((m - 1) - z15))), some (.int (jI (s + 1))), some (.int (jI z29)), some (.int (jI z31)), dv o12]) kc_1 rfl rfl ?_
                          refine w_goto ?_
                          exact ih12 _ best least (s + 1) (some z29) (some z31) o12 t16 ok16 fr16 wf16 (by omega) (by omega) (by omega) (by omega) (by omega) (by omega) (by omega) (by omega)
                        refine w_goto ?_
                        refine w_step rfl ?_
                        refine w_aload rfl ?_
                        refine w_getR (g_68_5 _) ?_
                        refine w_iload rfl ?_
                        refine w_iload rfl ?_
                        refine w_iast (i := (z31).toNat) (ai_72 _) rfl (by omega) (by omega) (ae_72 _) ok16 (by omega) (fun t38 ht38 ok38 => ?_)
                        have fr38 := fr16.uA ht38 (by simp)
                        have wf38 := wf16.uAo ht38 (by decide)
                        refine w_goto ?_
                        refine w_step rfl ?_
                        refine w_iinc (lv' := [some (.ref 68), some (.int (jI m)), some (.int (jI w)), some (.int (jI z3)), some (.int (jI z8)), some (.int (jI best)), some (.int (jI least)), some (.int (jI e)), some (.int (jI ((m - 1) - z15))), some (.int (jI (s + 1))), some (.int (jI z29)), some (.int (jI z31)), dv o12]) kc_1 rfl rfl ?_
                        refine w_goto ?_
                        exact ih12 _ best least (s + 1) (some z29) (some z31) o12 t38 ok38 fr38 wf38 (by omega) (by omega) (by omega) (by omega) (by omega) (by omega) (by omega) (by omega)
                      refine w_iload rfl ?_
                      refine w_ilt (by omega) (fun h39 => ?_) (fun h39 => ?_)
                      · skip
                        refine w_step rfl ?_
                        refine w_push kc_1 ?_
                        refine w_goto ?_
                        refine w_step rfl ?_
                        refine w_istore (lv' := [some (.ref 68), some (.int (jI m)), some (.int (jI w)), some (.int (jI z3)), some (.int (jI z8)), some (.int (jI best)), some (.int (jI least)), some (.int (jI e)), some (.int (jI ((m - 1) - z15))), some (.int (jI s)), some (.int (jI z29)), some (.int (jI z31)), some (.int (jI 1))]) rfl ?_
                        refine w_iload rfl ?_
                        refine w_ieq (by omega) (fun h => absurd h (by omega)) (fun _ => ?_)
                        refine w_iload rfl ?_
                        refine w_goto ?_
                        refine w_step rfl ?_
                        refine w_istore (lv' := [some (.ref 68), some (.int (jI m)), some (.int (jI w)), some (.int (jI z3)), some (.int (jI z8)), some (.int (jI s)), some (.int (jI least)), some (.int (jI e)), some (.int (jI ((m - 1) - z15))), some (.int (jI s)), some (.int (jI z29)), some (.int (jI z31)), some (.int (jI 1))]) rfl ?_
                        refine w_iload rfl ?_
                        refine w_ieq (by omega) (fun h => absurd h (by omega)) (fun _ => ?_)
                        refine w_iload rfl ?_
                        refine w_goto ?_
                        refine w_step rfl ?_
                        refine w_istore (lv' := [some (.ref 68), some (.int (jI m)), some (.int (jI w)), some (.int (jI z3)), some (.int (jI z8)), some (.int (jI s)), some (.int (jI z29)), some (.int (jI e)), some (.int (jI ((m - 1) - z15))), some (.int (jI s)), some (.int (jI z29)), some (.int (jI z31)), some (.int (jI 1))]) rfl ?_
                        refine w_goto ?_
                        refine w_step rfl ?_
                        refine w_iinc (lv' := [some (.ref 68), some (.int (jI m)), some (.int (jI w)), some (.int (jI z3)), some (.int (jI z8)), some (.int (jI s)), some (.int (jI z29)), some (.int (jI e)), some (.int (jI ((m - 1) - z15))), some (.int (jI (s + 1))), some (.int (jI z29)), some (.int (jI z31)), some (.int (jI 1))]) kc_1 rfl rfl ?_
                        refine w_goto ?_
                        exact ih12 _ s z29 (s + 1) (some z29) (some z31) (some 1) t16 ok16 fr16 wf16 (by omega) (by omega) (by omega) (by omega) (by omega) (by omega) (by omega) (by omega)
                      refine w_iload rfl ?_
                      refine w_iload rfl ?_
                      refine w_clt (by omega) (fun h40 => ?_) (fun h40 => ?_)
                      · skip
                        refine w_step rfl ?_
                        refine w_push kc_1 ?_
                        refine w_goto ?_
                        refine w_step rfl ?_
                        refine w_istore (lv' := [some (.ref 68), some (.int (jI m)), some (.int (jI w)), some (.int (jI z3)), some (.int (jI z8)), some (.int (jI best)), some (.int (jI least)), some (.int (jI e)), some (.int (jI ((m - 1) - z15))), some (.int (jI s)), some (.int (jI z29)), some (.int (jI z31)), some (.int (jI 1))]) rfl ?_
                        refine w_iload rfl ?_
                        refine w_ieq (by omega) (fun h => absurd h (by omega)) (fun _ => ?_)
                        refine w_iload rfl ?_
                        refine w_goto ?_
                        refine w_step rfl ?_
                        refine w_istore (lv' := [some (.ref 68), some (.int (jI m)), some (.int (jI w)), some (.int (jI z3)), some (.int (jI z8)), some (.int (jI s)), some (.int (jI least)), some (.int (jI e)), some (.int (jI ((m - 1) - z15))), some (.int (jI s)), some (.int (jI z29)), some (.int (jI z31)), some (.int (jI 1))]) rfl ?_
                        refine w_iload rfl ?_
                        refine w_ieq (by omega) (fun h => absurd h (by omega)) (fun _ => ?_)
                        refine w_iload rfl ?_
                        refine w_goto ?_
                        refine w_step rfl ?_
                        refine w_istore (lv' := [some (.ref 68), some (.int (jI m)), some (.int (jI w)), some (.int (jI z3)), some (.int (jI z8)), some (.int (jI s)), some (.int (jI z29)), some (.int (jI e)), some (.int (jI ((m - 1) - z15))), some (.int (jI s)), some (.int (jI z29)), some (.int (jI z31)), some (.int (jI 1))]) rfl ?_
                        refine w_goto ?_
                        refine w_step rfl ?_
                        refine w_iinc (lv' := [some (.ref 68), some (.int (jI m)), some (.int (jI w)), some (.int (jI z3)), some (.int (jI z8)), some (.int (jI s)), some (.int (jI z29)), some (.int (jI e)), some (.int (jI ((m - 1) - z15))), some (.int (jI (s + 1))), some (.int (jI z29)), some (.int (jI z31)), some (.int (jI 1))]) kc_1 rfl rfl ?_
                        refine w_goto ?_
                        exact ih12 _ s z29 (s + 1) (some z29) (some z31) (some 1) t16 ok16 fr16 wf16 (by omega) (by omega) (by omega) (by omega) (by omega) (by omega) (by omega) (by omega)
                      refine w_iload rfl ?_
                      refine w_iload rfl ?_
                      refine w_cne (by omega) (fun h41 => ?_) (fun h41 => ?_)
                      · skip
                        refine w_step rfl ?_
                        refine w_push kc_0 ?_
                        refine w_goto ?_
                        refine w_step rfl ?_
                        refine w_istore (lv' := [some (.ref 68), some (.int (jI m)), some (.int (jI w)), some (.int (jI z3)), some (.int (jI z8)), some (.int (jI best)), some (.int (jI least)), some (.int (jI e)), some (.int (jI ((m - 1) - z15))), some (.int (jI s)), some (.int (jI z29)), some (.int (jI z31)), some (.int (jI 0))]) rfl ?_
                        refine w_iload rfl ?_
                        refine w_ieq (by omega) (fun _ => ?_) (fun h => absurd (by omega) h)
                        refine w_step rfl ?_
                        refine w_iload rfl ?_
                        refine w_goto ?_
                        refine w_step rfl ?_
                        refine w_istore (lv' := [some (.ref 68), some (.int (jI m)), some (.int (jI w)), some (.int (jI z3)), some (.int (jI z8)), some (.int (jI best)), some (.int (jI least)), some (.int (jI e)), some (.int (jI ((m - 1) - z15))), some (.int (jI s)), some (.int (jI z29)), some (.int (jI z31)), some (.int (jI 0))]) rfl ?_
                        refine w_iload rfl ?_
                        refine w_ieq (by omega) (fun _ => ?_) (fun h => absurd (by omega) h)
                        refine w_step rfl ?_
                        refine w_iload rfl ?_
                        refine w_goto ?_
                        refine w_step rfl ?_
                        refine w_istore (lv' := [some (.ref 68), some (.int (jI m)), some (.int (jI w)), some (.int (jI z3)), some (.int (jI z8)), some (.int (jI best)), some (.int (jI least)), some (.int (jI e)), some (.int (jI ((m - 1) - z15))), some (.int (jI s)), some (.int (jI z29)), some (.int (jI z31)), some (.int (jI 0))]) rfl ?_
                        refine w_goto ?_
                        refine w_step rfl ?_
                        refine w_iinc (lv' := [some (.ref 68), some (.int (jI m)), some (.int (jI w)), some (.int (jI z3)), some (.int (jI z8)), some (.int (jI best)), some (.int (jI least)), some (.int (jI e)), some (.int (jI ((m - 1) - z15))), some (.int (jI (s + 1))), some (.int (jI z29)), some (.int (jI z31)), some (.int (jI 0))]) kc_1 rfl rfl ?_
                        refine w_goto ?_
                        exact ih12 _ best least (s + 1) (some z29) (some z31) (some 0) t16 ok16 fr16 wf16 (by omega) (by omega) (by omega) (by omega) (by omega) (by omega) (by omega) (by omega)
                      refine w_iload rfl ?_
                      refine w_iload rfl ?_
                      refine w_cge (by omega) (fun h42 => ?_) (fun h42 => ?_)
                      · skip
                        refine w_step rfl ?_
                        refine w_push kc_0 ?_
                        refine w_goto ?_
                        refine w_step rfl ?_
                        refine w_istore (lv' := [some (.ref 68), some (.int (jI m)), some (.int (jI w)), some (.int (jI z3)), some (.int (jI z8)), some (.int (jI best)), some (.int (jI least)), some (.int (jI e)), some (.int (jI ((m - 1) - z15))), some (.int (jI s)), some (.int (jI z29)), some (.int (jI z31)), some (.int (jI 0))]) rfl ?_
                        refine w_iload rfl ?_
                        refine w_ieq (by omega) (fun _ => ?_) (fun h => absurd (by omega) h)
                        refine w_step rfl ?_
                        refine w_iload rfl ?_
                        refine w_goto ?_
                        refine w_step rfl ?_
                        refine w_istore (lv' := [some (.ref 68), some (.int (jI m)), some (.int (jI w)), some (.int (jI z3)), some (.int (jI z8)), some (.int (jI best)), some (.int (jI least)), some (.int (jI e)), some (.int (jI ((m - 1) - z15))), some (.int (jI s)), some (.int (jI z29)), some (.int (jI z31)), some (.int (jI 0))]) rfl ?_
                        refine w_iload rfl ?_
                        refine w_ieq (by omega) (fun _ => ?_) (fun h => absurd (by omega) h)
                        refine w_step rfl ?_
                        refine w_iload rfl ?_
                        refine w_goto ?_
                        refine w_step rfl ?_
                        refine w_istore (lv' := [some (.ref 68), some (.int (jI m)), some (.int (jI w)), some (.int (jI z3)), some (.int (jI z8)), some (.int (jI best)), some (.int (jI least)), some (.int (jI e)), some (.int (jI ((m - 1) - z15))), some (.int (jI s)), some (.int (jI z29)), some (.int (jI z31)), some (.int (jI 0))]) rfl ?_
                        refine w_goto ?_
                        refine w_step rfl ?_
                        refine w_iinc (lv' := [some (.ref 68), some (.int (jI m)), some (.int (jI w)), some (.int (jI z3)), some (.int (jI z8)), some (.int (jI best)), some (.int (jI least)), some (.int (jI e)), some (.int (jI ((m - 1) - z15))), some (.int (jI (s + 1))), some (.int (jI z29)), some (.int (jI z31)), some (.int (jI 0))]) kc_1 rfl rfl ?_
                        refine w_goto ?_
                        exact ih12 _ best least (s + 1) (some z29) (some z31) (some 0) t16 ok16 fr16 wf16 (by omega) (by omega) (by omega) (by omega) (by omega) (by omega) (by omega) (by omega)
                      refine w_goto ?_
                      refine w_step rfl ?_
                      refine w_push kc_1 ?_
                      refine w_goto ?_
                      refine w_step rfl ?_
                      refine w_istore (lv' := [some (.ref 68), some (.int (jI m)), some (.int (jI w)), some (.int (jI z3)), some (.int (jI z8)), some (.int (jI best)), some (.int (jI least)), some (.int (jI e)), some (.int (jI ((m - 1) - z15))), some (.int (jI s)), some (.int (jI z29)), some (.int (jI z31)), some (.int (jI 1))]) rfl ?_
                      refine w_iload rfl ?_
                      refine w_ieq (by omega) (fun h => absurd h (by omega)) (fun _ => ?_)
                      refine w_iload rfl ?_
                      refine w_goto ?_
                      refine w_step rfl ?_
                      refine w_istore (lv' := [some (.ref 68), some (.int (jI m)), some (.int (jI w)), some (.int (jI z3)), some (.int (jI z8)), some (.int (jI s)), some (.int (jI least)), some (.int (jI e)), some (.int (jI ((m - 1) - z15))), some (.int (jI s)), some (.int (jI z29)), some (.int (jI z31)), some (.int (jI 1))]) rfl ?_
                      refine w_iload rfl ?_
                      refine w_ieq (by omega) (fun h => absurd h (by omega)) (fun _ => ?_)
                      refine w_iload rfl ?_
                      refine w_goto ?_
                      refine w_step rfl ?_
                      refine w_istore (lv' := [some (.ref 68), some (.int (jI m)), some (.int (jI w)), some (.int (jI z3)), some (.int (jI z8)), some (.int (jI s)), some (.int (jI z29)), some (.int (jI e)), some (.int (jI ((m - 1) - z15))), some (.int (jI s)), some (.int (jI z29)), some (.int (jI z31)), some (.int (jI 1))]) rfl ?_
                      refine w_goto ?_
                      refine w_step rfl ?_
                      refine w_iinc (lv' := [some (.ref 68), some (.int (jI m)), some (.int (jI w)), some (.int (jI z3)), some (.int (jI z8)), some (.int (jI s)), some (.int (jI z29)), some (.int (jI e)), some (.int (jI ((m - 1) - z15))), some (.int (jI (s + 1))), some (.int (jI z29)), some (.int (jI z31)), some (.int (jI 1))]) kc_1 rfl rfl ?_
                      refine w_goto ?_
                      exact ih12 _ s z29 (s + 1) (some z29) (some z31) (some 1) t16 ok16 fr16 wf16 (by omega) (by omega) (by omega) (by omega) (by omega) (by omega) (by omega) (by omega)
                  exact key12 13 _ best least 0 o10 o11 o12 t11 ok11 fr11 wf11 (by omega) (by omega) (by omega) (by omega) (by omega) (by omega) (by omega) (by omega)
              exact key11 4097 _ (-1) 0 0 none none none none none t9 ok9 fr9 wf9 (by omega) (by omega) (by omega) (by omega) (by omega) (by omega) (by omega) (by omega)
            refine w_aload rfl ?_
            refine w_getR (g_68_5 _) ?_
            refine w_iload rfl ?_
            refine w_iload rfl ?_
            refine w_ine (by omega) (fun h43 => ?_) (fun h43 => ?_)
            · skip
              refine w_step rfl ?_
              refine w_push kc_m1 ?_
              refine w_goto ?_
              refine w_step rfl ?_
              refine w_iast (i := (e).toNat) (ai_72 _) rfl (by omega) (by omega) (ae_72 _) ok9 (by omega) (fun t44 ht44 ok44 => ?_)
              have fr44 := fr9.uA ht44 (by simp)
              have wf44 := wf9.uAo ht44 (by decide)
              refine w_iinc (lv' := [some (.ref 68), some (.int (jI m)), some (.int (jI w)), some (.int (jI z3)), some (.int (jI z8)), some (.int (jI (e + 1))), none, none, none, none, none, none, none]) kc_1 rfl rfl ?_
              refine w_goto ?_
              exact ih7 _ (e + 1) t44 ok44 fr44 wf44 (by omega) (by omega) (by omega) (by omega)
            refine w_push kc_0 ?_
            refine w_goto ?_
            refine w_step rfl ?_
            refine w_iast (i := (e).toNat) (ai_72 _) rfl (by omega) (by omega) (ae_72 _) ok9 (by omega) (fun t45 ht45 ok45 => ?_)
            have fr45 := fr9.uA ht45 (by simp)
            have wf45 := wf9.uAo ht45 (by decide)
            refine w_iinc (lv' := [some (.ref 68), some (.int (jI m)), some (.int (jI w)), some (.int (jI z3)), some (.int (jI z8)), some (.int (jI (e + 1))), none, none, none, none, none, none, none]) kc_1 rfl rfl ?_
            refine w_goto ?_
            exact ih7 _ (e + 1) t45 ok45 fr45 wf45 (by omega) (by omega) (by omega) (by omega)
        exact key7 4097 _ 0 t4 ok4 fr4 wf4 (by omega) (by omega) (by omega) (by omega)
      refine w_push kc_0 ?_
      refine w_istore (lv' := [some (.ref 68), some (.int (jI m)), some (.int (jI w)), some (.int (jI z3)), some (.int (jI s)), some (.int (jI 0)), none, none, none, none, none, none, none]) rfl ?_
      refine w_goto ?_
      have key4 : ∀ (n4 M4 : Nat) (p : Int) (t46 : TS), OK t46 → Fr [(81, 100), (82, 100), (72, 100), (73, 100)] t t46 → WF t46 69 → (0 ≤ p) → (p ≤ m) → 6 - p < (n4 : Int) → 10 * n4 + (200 * n3 + BIG) ≤ M4 → Rn (bX9_best (EX FU (d + 5))) M4 4 [some (.ref 68), some (.int (jI m)), some (.int (jI w)), some (.int (jI z3)), some (.int (jI s)), some (.int (jI p)), none, none, none, none, none, none, none] [] (mk t46) (PI (fun z t' => OK t' ∧ Fr [(81, 100), (82, 100), (72, 100), (73, 100)] t t' ∧ (-2147483648 ≤ z) ∧ (z ≤ 2147483647))) := by
        intro n4
        induction n4 with
        | zero => intro M4 p t46 ok46 fr46 wf46 i4_0 i4_1 v4 f4; exfalso; omega
        | succ n4 ih4 =>
          intro M4 p t46 ok46 fr46 wf46 i4_0 i4_1 v4 f4
          obtain ⟨M4, rfl⟩ : ∃ m, M4 = m + 10 := ⟨M4 - 10, by omega⟩
          refine w_step rfl ?_
          refine w_iload rfl ?_
          refine w_iload rfl ?_
          refine w_cge (by omega) (fun h47 => ?_) (fun h47 => ?_)
          · skip
            refine w_step rfl ?_
            refine w_iinc (lv' := [some (.ref 68), some (.int (jI m)), some (.int (jI w)), some (.int (jI z3)), some (.int (jI (s + 1))), some (.int (jI p)), none, none, none, none, none, none, none]) kc_1 rfl rfl ?_
            refine w_goto ?_
            exact ih3 _ (s + 1) (some p) t46 ok46 fr46 wf46 (by omega) (by omega) (by omega) (by omega)
          refine w_aload rfl ?_
          refine w_getR (g_68_6 _) ?_
          refine w_push kc_12 ?_
          refine w_iload rfl ?_
          refine w_mul ?_
          refine w_iload rfl ?_
          refine w_add ?_
          refine w_aload rfl ?_
          refine w_iload rfl ?_
          refine w_iload rfl ?_
          refine w_callV2I (oj_68 _).choose_spec rfl (c_X9_leastAt ok46 wf46 (by omega) (by omega) (by omega) (by omega)) ?_
          rintro z48 t48 ⟨ok48, fq48, hp48_0, hp48_1⟩
          have fr48 := fr46.then fq48 (by simp)
          have wf48 := wf46.fr fq48 (by simp)
          refine w_iast (i := (((12 * s) + p)).toNat) (ai_73 _) rfl (by omega) (by omega) (ae_73 _) ok48 (by omega) (fun t49 ht49 ok49 => ?_)
          have fr49 := fr48.uA ht49 (by simp)
          have wf49 := wf48.uAo ht49 (by decide)
          refine w_iinc (lv' := [some (.ref 68), some (.int (jI m)), some (.int (jI w)), some (.int (jI z3)), some (.int (jI s)), some (.int (jI (p + 1))), none, none, none, none, none, none, none]) kc_1 rfl rfl ?_
          refine w_goto ?_
          exact ih4 _ (p + 1) t49 ok49 fr49 wf49 (by omega) (by omega) (by omega) (by omega)
      exact key4 7 _ 0 t4 ok4 fr4 wf4 (by omega) (by omega) (by omega) (by omega)
  exact key3 13 _ 0 none t ok fr q0 (by omega) (by omega) (by omega) (by omega)
end
section
theorem comes_e {t u : TS} {c : Nat} {v : Int} (hc : 29 ≤ c ∧ c ≤ 31) (h0 : tA u 69 (c + 5 * (tA t 69 1).toNat) = v) (h1 : ∀ i, ¬ i = 1 → (i < 29 + 5 * (tA t 69 1).toNat ∨ 34 + 5 * (tA t 69 1).toNat ≤ i) → tA u 69 i = tA t 69 i) : ∀ m : Nat, tA u 69 (c + 5 * m) = if m = (tA t 69 1).toNat then v else tA t 69 (c + 5 * m) := by
  intro m
  by_cases e : m = (tA t 69 1).toNat
  · rw [if_pos e, e, h0]
  · rw [if_neg e]
    exact h1 _ (by omega) (by omega)
set_option maxRecDepth 100000 in
set_option maxHeartbeats 4000000 in
theorem c_X9_as {d : Nat} {t : TS} {s k : Int}  (ok : OK t) (q0 : -2147483648 ≤ s) (q1 : s ≤ 2147483647) (q2 : -2147483648 ≤ k) (q3 : k ≤ 2147483647) : CI (EX FU (d + 3)) 147 [.ref 68, .int (jI s), .int (jI k)] (mk t) (fun z t' => t = t' ∧ (((¬ (0 ≤ s ∧ s ≤ tA t 69 1 - 1 ∧ 0 ≤ k ∧ k ≤ 5)) ∧ z = (-1000000001)) ∨ ((0 ≤ s ∧ s ≤ tA t 69 1 - 1 ∧ 0 ≤ k ∧ k ≤ 5) ∧ (tA t 69 (29 + 5 * s + 0).toNat = k ∨ k = 0 ∨ (k = 1 ∧ tA t 69 (29 + 5 * s + 0).toNat = 3) ∨ (k = 2 ∧ tA t 69 (29 + 5 * s + 0).toNat = 4)) ∧ z = tA t 69 (29 + 5 * s + 1).toNat) ∨ ((0 ≤ s ∧ s ≤ tA t 69 1 - 1 ∧ 0 ≤ k ∧ k ≤ 5) ∧ (¬ (tA t 69 (29 + 5 * s + 0).toNat = k ∨ k = 0 ∨ (k = 1 ∧ tA t 69 (29 + 5 * s + 0).toNat = 3) ∨ (k = 2 ∧ tA t 69 (29 + 5 * s + 0).toNat = 4))) ∧ z = (-1000000012)))) := by
  refine CI_ent (d := d + 2) (Bk := bX9_as) (nL := 3) rfl rfl rfl (Nat.le_of_ble_eq_true rfl) ?_
  show Rn _ 1000000 0 [some (.ref 68), some (.int (jI s)), some (.int (jI k))] [] _ _
  have hn0 := (ok.a (ax_69 nr_1)).1
  have hn1 := (ok.a (ax_69 nr_1)).2
  refine w_step rfl ?_
  refine w_aload rfl ?_
  refine w_iload rfl ?_
  refine w_callV1I (oj_68 _).choose_spec rfl (c_X9_isStone ok (by omega) (by omega)) ?_
  rintro z1 t1 ⟨rfl, hp1_0⟩
  rcases hp1_0 with ⟨rfl, hp1_0⟩ | ⟨rfl, hp1_0⟩
  · skip
    refine w_ieq (by omega) (fun _ => ?_) (fun h => absurd (by omega) h)
    refine w_step rfl ?_
    refine w_push kc_m1000000001 ?_
    refine w_retI rfl ?_
    exact ⟨rfl, (by first | (exact Or.inl ⟨by omega, by first | omega | (subst_vars; rfl)⟩) | (exact Or.inr (Or.inl ⟨by omega, by omega, by first | omega | (subst_vars; rfl)⟩)) | (exact Or.inr (Or.inr (⟨by omega, by omega, by first | omega | (subst_vars; rfl)⟩))))⟩
  refine w_ieq (by omega) (fun h => absurd h (by omega)) (fun _ => ?_)
  refine w_iload rfl ?_
  refine w_push kc_0 ?_
  refine w_push kc_5 ?_
  refine w_callS3I rfl (c_X9_in ok (by omega) (by omega) (by omega) (by omega) (by omega) (by omega)) ?_
  rintro z2 t2 ⟨rfl, hp2_0⟩
  rcases hp2_0 with ⟨rfl, hp2_0⟩ | ⟨rfl, hp2_0⟩
  · skip
    refine w_ine (by omega) (fun h => absurd h (by omega)) (fun _ => ?_)
    refine w_goto ?_
    refine w_step rfl ?_
    refine w_push kc_m1000000001 ?_
    refine w_retI rfl ?_
    exact ⟨rfl, (by first | (exact Or.inl ⟨by omega, by first | omega | (subst_vars; rfl)⟩) | (exact Or.inr (Or.inl ⟨by omega, by omega, by first | omega | (subst_vars; rfl)⟩)) | (exact Or.inr (Or.inr (⟨by omega, by omega, by first | omega | (subst_vars; rfl)⟩))))⟩
  refine w_ine (by omega) (fun _ => ?_) (fun h => absurd (by omega) h)
  refine w_step rfl ?_
  refine w_aload rfl ?_
  refine w_iload rfl ?_
  refine w_push kc_0 ?_
  refine w_callV2I (oj_68 _).choose_spec rfl (c_X9_of ok (by omega) (by omega) (by omega) (by omega)) ?_
  rintro z3 t3 ⟨rfl, hp3_0, hp3_1, hp3_2⟩
  have hr3 := of_r0 (s := s) ok (by omega)
  refine w_iload rfl ?_
  refine w_callS2I rfl (c_X9_isUnder ok (by omega) (by omega) (by omega) (by omega)) ?_
  rintro z4 t4 ⟨rfl, hp4_0⟩
  rcases hp4_0 with ⟨rfl, hp4_0⟩ | ⟨rfl, hp4_0⟩
  · skip
    refine w_ieq (by omega) (fun _ => ?_) (fun h => absurd (by omega) h)
    refine w_step rfl ?_
    refine w_push kc_m1000000012 ?_
    refine w_goto ?_
    refine w_step rfl ?_
    refine w_retI rfl ?_
    exact ⟨rfl, (by first | (exact Or.inl ⟨by omega, by first | omega | (subst_vars; rfl)⟩) | (exact Or.inr (Or.inl ⟨by omega, by omega, by first | omega | (subst_vars; rfl)⟩)) | (exact Or.inr (Or.inr (⟨by omega, by omega, by first | omega | (subst_vars; rfl)⟩))))⟩
  refine w_ieq (by omega) (fun h => absurd h (by omega)) (fun _ => ?_)
  refine w_aload rfl ?_
  refine w_iload rfl ?_
  refine w_push kc_1 ?_
  refine w_callV2I (oj_68 _).choose_spec rfl (c_X9_of ok (by omega) (by omega) (by omega) (by omega)) ?_
  rintro z5 t5 ⟨rfl, hp5_0, hp5_1, hp5_2⟩
  have hr5 := of_r1 (s := s) ok (by omega)
  refine w_goto ?_
  refine w_step rfl ?_
  refine w_retI rfl ?_
  exact ⟨rfl, (by first | (exact Or.inl ⟨by omega, by first | omega | (subst_vars; rfl)⟩) | (exact Or.inr (Or.inl ⟨by omega, by omega, by first | omega | (subst_vars; rfl)⟩)) | (exact Or.inr (Or.inr (⟨by omega, by omega, by first | omega | (subst_vars; rfl)⟩))))⟩
set_option maxRecDepth 100000 in
set_option maxHeartbeats 4000000 in
theorem c_X9_turns {d : Nat} {t : TS} {s k : Int}  (ok : OK t) (q0 : -2147483648 ≤ s) (q1 : s ≤ 2147483647) (q2 : -2147483648 ≤ k) (q3 : k ≤ 2147483647) : CI (EX FU (d + 3)) 148 [.ref 68, .int (jI s), .int (jI k)] (mk t) (fun z t' => OK t' ∧ Fr [(69, 100)] t t' ∧ (((¬ (0 ≤ s ∧ s ≤ tA t 69 1 - 1 ∧ 0 ≤ k ∧ k ≤ 5)) ∧ z = (-1000000001) ∧ t' = t) ∨ ((0 ≤ s ∧ s ≤ tA t 69 1 - 1 ∧ 0 ≤ k ∧ k ≤ 5) ∧ z = tA t 69 (29 + 5 * s).toNat ∧ (t' = uA t 69 (29 + 5 * s).toNat k)))) := by
  refine CI_ent (d := d + 2) (Bk := bX9_turns) (nL := 3) rfl rfl rfl (Nat.le_of_ble_eq_true rfl) ?_
  show Rn _ 1000000 0 [some (.ref 68), some (.int (jI s)), some (.int (jI k))] [] _ _
  have fr : Fr [(69, 100)] t t := Fr.rf _ _
  have hn0 := (ok.a (ax_69 nr_1)).1
  have hn1 := (ok.a (ax_69 nr_1)).2
  refine w_step rfl ?_
  refine w_aload rfl ?_
  refine w_iload rfl ?_
  refine w_callV1I (oj_68 _).choose_spec rfl (c_X9_isStone ok (by omega) (by omega)) ?_
  rintro z1 t1 ⟨rfl, hp1_0⟩
  rcases hp1_0 with ⟨rfl, hp1_0⟩ | ⟨rfl, hp1_0⟩
  · skip
    refine w_ieq (by omega) (fun _ => ?_) (fun h => absurd (by omega) h)
    refine w_step rfl ?_
    refine w_push kc_m1000000001 ?_
    refine w_goto ?_
    refine w_step rfl ?_
    refine w_retI rfl ?_
    exact ⟨ok, fr, (by first | (exact Or.inl ⟨by omega, by first | omega | (subst_vars; rfl), rfl⟩) | (exact Or.inr (⟨by omega, by first | omega | (subst_vars; rfl), eB⟩)))⟩
  refine w_ieq (by omega) (fun h => absurd h (by omega)) (fun _ => ?_)
  refine w_iload rfl ?_
  refine w_push kc_0 ?_
  refine w_push kc_5 ?_
  refine w_callS3I rfl (c_X9_in ok (by omega) (by omega) (by omega) (by omega) (by omega) (by omega)) ?_
  rintro z2 t2 ⟨rfl, hp2_0⟩
  rcases hp2_0 with ⟨rfl, hp2_0⟩ | ⟨rfl, hp2_0⟩
  · skip
    refine w_ieq (by omega) (fun _ => ?_) (fun h => absurd (by omega) h)
    refine w_step rfl ?_
    refine w_push kc_m1000000001 ?_
    refine w_goto ?_
    refine w_step rfl ?_
    refine w_retI rfl ?_
    exact ⟨ok, fr, (by first | (exact Or.inl ⟨by omega, by first | omega | (subst_vars; rfl), rfl⟩) | (exact Or.inr (⟨by omega, by first | omega | (subst_vars; rfl), eB⟩)))⟩
  refine w_ieq (by omega) (fun h => absurd h (by omega)) (fun _ => ?_)
  refine w_aload rfl ?_
  refine w_push kc_29 ?_
  refine w_push kc_5 ?_
  refine w_iload rfl ?_
  refine w_mul ?_
  refine w_add ?_
  refine w_iload rfl ?_
  refine w_callV2I (oj_68 _).choose_spec rfl (c_X9_becomes ok (by omega) (by omega) ⟨_, _, nr_S0 (s := s.toNat) (by omega), by omega, by omega⟩) ?_
  rintro z3 t3 ⟨ok3, fq3, hp3_0, hp3_1, hp3_2, hp3_3⟩
  have fr3 := fr.then fq3 (by simp)
  have eB := hp3_1
  refine w_goto ?_
  refine w_step rfl ?_
  refine w_retI rfl ?_
  exact ⟨ok3, fr3, (by first | (exact Or.inl ⟨by omega, by first | omega | (subst_vars; rfl), rfl⟩) | (exact Or.inr (⟨by omega, by first | omega | (subst_vars; rfl), eB⟩)))⟩
set_option maxRecDepth 100000 in
set_option maxHeartbeats 4000000 in
theorem c_X9_want {d : Nat} {t : TS} {c v : Int}  (ok : OK t) (q0 : -2147483648 ≤ c) (q1 : c ≤ 2147483647) (q2 : -2147483648 ≤ v) (q3 : v ≤ 2147483647) : CI (EX FU (d + 2)) 152 [.ref 68, .int (jI c), .int (jI v)] (mk t) (fun z t' => OK t' ∧ Fr [(69, 100)] t t' ∧ (((¬ (0 ≤ c ∧ c ≤ 23 ∧ 0 ≤ v ∧ v ≤ 99)) ∧ z = (-1000000001) ∧ t' = t) ∨ ((0 ≤ c ∧ c ≤ 23 ∧ 0 ≤ v ∧ v ≤ 99) ∧ z = tA t 69 (5 + c).toNat ∧ (t' = uA t 69 (5 + c).toNat v)))) := by
  refine CI_ent (d := d + 1) (Bk := bX9_want) (nL := 3) rfl rfl rfl (Nat.le_of_ble_eq_true rfl) ?_
  show Rn _ 1000000 0 [some (.ref 68), some (.int (jI c)), some (.int (jI v))] [] _ _
  have fr : Fr [(69, 100)] t t := Fr.rf _ _
  have hn0 := (ok.a (ax_69 nr_1)).1
  have hn1 := (ok.a (ax_69 nr_1)).2
  refine w_step rfl ?_
  refine w_iload rfl ?_
  refine w_push kc_0 ?_
  refine w_push kc_23 ?_
  refine w_callS3I rfl (c_X9_in ok (by omega) (by omega) (by omega) (by omega) (by omega) (by omega)) ?_
  rintro z1 t1 ⟨rfl, hp1_0⟩
  rcases hp1_0 with ⟨rfl, hp1_0⟩ | ⟨rfl, hp1_0⟩
  · skip
    refine w_ieq (by omega) (fun _ => ?_) (fun h => absurd (by omega) h)
    refine w_step rfl ?_
    refine w_push kc_m1000000001 ?_
    refine w_goto ?_
    refine w_step rfl ?_
    refine w_retI rfl ?_
    exact ⟨ok, fr, (by first | (exact Or.inl ⟨by omega, by first | omega | (subst_vars; rfl), rfl⟩) | (exact Or.inr (⟨by omega, by first | omega | (subst_vars; rfl), eB⟩)))⟩
  refine w_ieq (by omega) (fun h => absurd h (by omega)) (fun _ => ?_)
  refine w_iload rfl ?_
  refine w_push kc_0 ?_
  refine w_push kc_99 ?_
  refine w_callS3I rfl (c_X9_in ok (by omega) (by omega) (by omega) (by omega) (by omega) (by omega)) ?_
  rintro z2 t2 ⟨rfl, hp2_0⟩
  rcases hp2_0 with ⟨rfl, hp2_0⟩ | ⟨rfl, hp2_0⟩
  · skip
    refine w_ieq (by omega) (fun _ => ?_) (fun h => absurd (by omega) h)
    refine w_step rfl ?_
    refine w_push kc_m1000000001 ?_
    refine w_goto ?_
    refine w_step rfl ?_
    refine w_retI rfl ?_
    exact ⟨ok, fr, (by first | (exact Or.inl ⟨by omega, by first | omega | (subst_vars; rfl), rfl⟩) | (exact Or.inr (⟨by omega, by first | omega | (subst_vars; rfl), eB⟩)))⟩
  refine w_ieq (by omega) (fun h => absurd h (by omega)) (fun _ => ?_)
  refine w_aload rfl ?_
  refine w_push kc_5 ?_
  refine w_iload rfl ?_
  refine w_add ?_
  refine w_iload rfl ?_
  refine w_callV2I (oj_68 _).choose_spec rfl (c_X9_becomes ok (by omega) (by omega) ⟨_, _, nr_W (by omega), by omega, by omega⟩) ?_
  rintro z3 t3 ⟨ok3, fq3, hp3_0, hp3_1, hp3_2, hp3_3⟩
  have fr3 := fr.then fq3 (by simp)
  have eB := hp3_1
  refine w_goto ?_
  refine w_step rfl ?_
  refine w_retI rfl ?_
  exact ⟨ok3, fr3, (by first | (exact Or.inl ⟨by omega, by first | omega | (subst_vars; rfl), rfl⟩) | (exact Or.inr (⟨by omega, by first | omega | (subst_vars; rfl), eB⟩)))⟩
set_option maxRecDepth 100000 in
set_option maxHeartbeats 4000000 in
theorem c_X9_wind {d : Nat} {t : TS} {v : Int}  (ok : OK t) (q0 : -2147483648 ≤ v) (q1 : v ≤ 2147483647) : CI (EX FU (d + 2)) 153 [.ref 68, .int (jI v)] (mk t) (fun z t' => OK t' ∧ Fr [(69, 100)] t t' ∧ (((¬ (0 ≤ v ∧ v ≤ 100)) ∧ z = (-1000000001) ∧ t' = t) ∨ ((0 ≤ v ∧ v ≤ 100) ∧ z = tA t 69 3 ∧ (t' = uA t 69 3 v)))) := by
  refine CI_ent (d := d + 1) (Bk := bX9_wind) (nL := 2) rfl rfl rfl (Nat.le_of_ble_eq_true rfl) ?_
  show Rn _ 1000000 0 [some (.ref 68), some (.int (jI v))] [] _ _
  have fr : Fr [(69, 100)] t t := Fr.rf _ _
  have hn0 := (ok.a (ax_69 nr_1)).1
  have hn1 := (ok.a (ax_69 nr_1)).2
  refine w_step rfl ?_
  refine w_iload rfl ?_
  refine w_push kc_0 ?_
  refine w_push kc_100 ?_
  refine w_callS3I rfl (c_X9_in ok (by omega) (by omega) (by omega) (by omega) (by omega) (by omega)) ?_
  rintro z1 t1 ⟨rfl, hp1_0⟩
  rcases hp1_0 with ⟨rfl, hp1_0⟩ | ⟨rfl, hp1_0⟩
  · skip
    refine w_ieq (by omega) (fun _ => ?_) (fun h => absurd (by omega) h)
    refine w_step rfl ?_
    refine w_push kc_m1000000001 ?_
    refine w_goto ?_
    refine w_step rfl ?_
    refine w_retI rfl ?_
    exact ⟨ok, fr, (by first | (exact Or.inl ⟨by omega, by first | omega | (subst_vars; rfl), rfl⟩) | (exact Or.inr (⟨by omega, eC, eB⟩)))⟩
  refine w_ieq (by omega) (fun h => absurd h (by omega)) (fun _ => ?_)
  refine w_aload rfl ?_
  refine w_push kc_3 ?_
  refine w_iload rfl ?_
  refine w_callV2I (oj_68 _).choose_spec rfl (c_X9_becomes ok (by omega) (by omega) ⟨_, _, nr_3, by omega, by omega⟩) ?_
  rintro z2 t2 ⟨ok2, fq2, hp2_0, hp2_1, hp2_2, hp2_3⟩
  have fr2 := fr.then fq2 (by simp)
  have eB := hp2_1
  have eC := hp2_0
  refine w_goto ?_
  refine w_step rfl ?_
  refine w_retI rfl ?_
  exact ⟨ok2, fr2, (by first | (exact Or.inl ⟨by omega, by first | omega | (subst_vars; rfl), rfl⟩) | (exact Or.inr (⟨by omega, eC, eB⟩)))⟩
set_option maxRecDepth 100000 in
set_option maxHeartbeats 4000000 in
theorem c_X9_seed {d : Nat} {t : TS} {v : Int}  (ok : OK t) (q0 : -2147483648 ≤ v) (q1 : v ≤ 2147483647) : CI (EX FU (d + 2)) 156 [.ref 68, .int (jI v)] (mk t) (fun z t' => OK t' ∧ Fr [(69, 100)] t t' ∧ (z = tA t 69 0) ∧ (t' = uA t 69 0 v)) := by
  refine CI_ent (d := d + 1) (Bk := bX9_seed) (nL := 2) rfl rfl rfl (Nat.le_of_ble_eq_true rfl) ?_
  show Rn _ 1000000 0 [some (.ref 68), some (.int (jI v))] [] _ _
  have fr : Fr [(69, 100)] t t := Fr.rf _ _
  have hn0 := (ok.a (ax_69 nr_1)).1
  have hn1 := (ok.a (ax_69 nr_1)).2
  refine w_step rfl ?_
  refine w_aload rfl ?_
  refine w_push kc_0 ?_
  refine w_iload rfl ?_
  refine w_callV2I (oj_68 _).choose_spec rfl (c_X9_becomes ok (by omega) (by omega) ⟨_, _, nr_0, by omega, by omega⟩) ?_
  rintro z1 t1 ⟨ok1, fq1, hp1_0, hp1_1, hp1_2, hp1_3⟩
  have fr1 := fr.then fq1 (by simp)
  have eB := hp1_1
  have eC := hp1_0
  refine w_retI rfl ?_
  exact ⟨ok1, fr1, eC, eB⟩
set_option maxRecDepth 100000 in
set_option maxHeartbeats 4000000 in
theorem c_X9_seen {d : Nat} {t : TS} {k w : Int}  (ok : OK t) (q0 : WF t 69) (q1 : -2147483648 ≤ k) (q2 : k ≤ 2147483647) (q3 : -2147483648 ≤ w) (q4 : w ≤ 2147483647) : CI (EX FU (d + 6)) 184 [.ref 68, .int (jI k), .int (jI w)] (mk t) (fun z t' => OK t' ∧ Fr [(81, 100), (82, 100)] t t' ∧ (-2147483648 ≤ z) ∧ (z ≤ 2147483647)) := by
  refine CI_ent (d := d + 5) (Bk := bX9_seen) (nL := 9) rfl rfl rfl (Nat.le_of_ble_eq_true rfl) ?_
  show Rn _ 1000000 0 [some (.ref 68), some (.int (jI k)), some (.int (jI w)), none, none, none, none, none, none] [] _ _
  have fr : Fr [(81, 100), (82, 100)] t t := Fr.rf _ _
  have hn0 := (ok.a (ax_69 nr_1)).1
  have hn1 := (ok.a (ax_69 nr_1)).2
  refine w_step rfl ?_
  refine w_iload rfl ?_
  refine w_callS1I rfl (c_X9_isSheet ok (by omega) (by omega)) ?_
  rintro z1 t1 ⟨rfl, hp1_0⟩
  rcases hp1_0 with ⟨rfl, hp1_0⟩ | ⟨rfl, hp1_0⟩
  · skip
    refine w_ieq (by omega) (fun _ => ?_) (fun h => absurd (by omega) h)
    refine w_step rfl ?_
    refine w_push kc_m1000000001 ?_
    refine w_retI rfl ?_
    exact ⟨ok, fr, (by omega), (by omega)⟩
  refine w_ieq (by omega) (fun h => absurd h (by omega)) (fun _ => ?_)
  refine w_iload rfl ?_
  refine w_push kc_0 ?_
  refine w_push kc_1 ?_
  refine w_callS3I rfl (c_X9_in ok (by omega) (by omega) (by omega) (by omega) (by omega) (by omega)) ?_
  rintro z2 t2 ⟨rfl, hp2_0⟩
  rcases hp2_0 with ⟨rfl, hp2_0⟩ | ⟨rfl, hp2_0⟩
  · skip
    refine w_ine (by omega) (fun h => absurd h (by omega)) (fun _ => ?_)
    refine w_goto ?_
    refine w_step rfl ?_
    refine w_push kc_m1000000001 ?_
    refine w_retI rfl ?_
    exact ⟨ok, fr, (by omega), (by omega)⟩
  refine w_ine (by omega) (fun _ => ?_) (fun h => absurd (by omega) h)
  refine w_step rfl ?_
  refine w_aload rfl ?_
  refine w_getR (g_68_26 _) ?_
  refine w_iload rfl ?_
  refine w_iald (i := (k).toNat) (ai_83 _) (by omega) (by omega) (ae_83 _) ok (fun z3 hz3 hl3 hh3 => ?_)
  refine w_ige (by omega) (fun h4 => ?_) (fun h4 => ?_)
  · skip
    refine w_step rfl ?_
    refine w_push kc_0 ?_
    refine w_istore (lv' := [some (.ref 68), some (.int (jI k)), some (.int (jI w)), some (.int (jI 0)), none, none, none, none, none]) rfl ?_
    refine w_aload rfl ?_
    refine w_iload rfl ?_
    refine w_push kc_0 ?_
    refine w_callV2L (oj_68 _).choose_spec rfl (c_X9_offBy ok q0 (by omega) (by omega) (by omega) (by omega)) ?_
    rintro z5 t5 ⟨ok5, fq5⟩
    have fr5 := fr.then fq5 (by simp)
    have wf5 := q0.fr fq5 (by simp)
    refine w_lstore (lv' := [some (.ref 68), some (.int (jI k)), some (.int (jI w)), some (.int (jI 0)), some (.long z5), none, none, none, none]) rfl ?_
    refine w_push kc_1 ?_
    refine w_istore (lv' := [some (.ref 68), some (.int (jI k)), some (.int (jI w)), some (.int (jI 0)), some (.long z5), none, some (.int (jI 1)), none, none]) rfl ?_
    refine w_goto ?_
    have key4 : ∀ (n4 M4 : Nat) (best : Int) (least : Int64) (r : Int) (o7 : Option Int64) (t6 : TS), OK t6 → Fr [(81, 100), (82, 100)] t t6 → WF t6 69 → (0 ≤ best) → (best ≤ 4) → (1 ≤ r) → (r ≤ 4) → 4 - r < (n4 : Int) → 60 * n4 + (1000) ≤ M4 → Rn (bX9_seen (EX FU (d + 5))) M4 4 [some (.ref 68), some (.int (jI k)), some (.int (jI w)), some (.int (jI best)), some (.long least), none, some (.int (jI r)), dl o7, none] [] (mk t6) (PI (fun z t' => OK t' ∧ Fr [(81, 100), (82, 100)] t t' ∧ (-2147483648 ≤ z) ∧ (z ≤ 2147483647))) := by
      intro n4
      induction n4 with
      | zero => intro M4 best least r o7 t6 ok6 fr6 wf6 i4_0 i4_1 i4_2 i4_3 v4 f4; exfalso; omega
      | succ n4 ih4 =>
        intro M4 best least r o7 t6 ok6 fr6 wf6 i4_0 i4_1 i4_2 i4_3 v4 f4
        obtain ⟨M4, rfl⟩ : ∃ m, M4 = m + 60 := ⟨M4 - 60, by omega⟩
        refine w_step rfl ?_
        refine w_iload rfl ?_
        refine w_push kc_4 ?_
        refine w_cge (by omega) (fun h7 => ?_) (fun h7 => ?_)
        · skip
          refine w_step rfl ?_
          refine w_iload rfl ?_
          refine w_ine (by omega) (fun h8 => ?_) (fun h8 => ?_)
          · skip
            refine w_step rfl ?_
            refine w_lload rfl ?_
            refine w_l2i (fun z9 hl9 hh9 => ?_)
            refine w_goto ?_
            refine w_step rfl ?_
            refine w_retI rfl ?_
            exact ⟨ok6, fr6, (by omega), (by omega)⟩
          refine w_iload rfl ?_
          refine w_goto ?_
          refine w_step rfl ?_
          refine w_retI rfl ?_
          exact ⟨ok6, fr6, (by omega), (by omega)⟩
        refine w_aload rfl ?_
        refine w_iload rfl ?_
        refine w_iload rfl ?_
        refine w_callV2L (oj_68 _).choose_spec rfl (c_X9_offBy ok6 wf6 (by omega) (by omega) (by omega) (by omega)) ?_
        rintro z10 t10 ⟨ok10, fq10⟩
        have fr10 := fr6.then fq10 (by simp)
        have wf10 := wf6.fr fq10 (by simp)
        refine w_lstore (lv' := [some (.ref 68), some (.int (jI k)), some (.int (jI w)), some (.int (jI best)), some (.long least), none, some (.int (jI r)), some (.long z10), none]) rfl ?_
        refine w_lload rfl ?_
        refine w_lload rfl ?_
        refine w_lcmp (fun z11 hl11 hh11 => ?_)
        refine w_ige (by omega) (fun h12 => ?_) (fun h12 => ?_)
        · skip
          refine w_step rfl ?_
          refine w_iload rfl ?_
          refine w_goto ?_
          refine w_step rfl ?_
          refine w_istore (lv' := [some (.ref 68), some (.int (jI k)), some (.int (jI w)), some (.int (jI best)), some (.long least), none, some (.int (jI r)), some (.long z10), none]) rfl ?_
          refine w_lload rfl ?_
          refine w_lload rfl ?_
          refine w_lcmp (fun z13 hl13 hh13 => ?_)
          refine w_ige (by omega) (fun h14 => ?_) (fun h14 => ?_)
          · skip
            refine w_step rfl ?_
            refine w_lload rfl ?_
            refine w_goto ?_
            refine w_step rfl ?_
            refine w_lstore (lv' := [some (.ref 68), some (.int (jI k)), some (.int (jI w)), some (.int (jI best)), some (.long least), none, some (.int (jI r)), some (.long z10), none]) rfl ?_
            refine w_iinc (lv' := [some (.ref 68), some (.int (jI k)), some (.int (jI w)), some (.int (jI best)), some (.long least), none, some (.int (jI (r + 1))), some (.long z10), none]) kc_1 rfl rfl ?_
            refine w_goto ?_
            exact ih4 _ best least (r + 1) (some z10) t10 ok10 fr10 wf10 (by omega) (by omega) (by omega) (by omega) (by omega) (by omega)
          refine w_lload rfl ?_
          refine w_goto ?_
          refine w_step rfl ?_
          refine w_lstore (lv' := [some (.ref 68), some (.int (jI k)), some (.int (jI w)), some (.int (jI best)), some (.long z10), none, some (.int (jI r)), some (.long z10), none]) rfl ?_
          refine w_iinc (lv' := [some (.ref 68), some (.int (jI k)), some (.int (jI w)), some (.int (jI best)), some (.long z10), none, some (.int (jI (r + 1))), some (.long z10), none]) kc_1 rfl rfl ?_
          refine w_goto ?_
          exact ih4 _ best z10 (r + 1) (some z10) t10 ok10 fr10 wf10 (by omega) (by omega) (by omega) (by omega) (by omega) (by omega)
        refine w_iload rfl ?_
        refine w_goto ?_
        refine w_step rfl ?_
        refine w_istore (lv' := [some (.ref 68), some (.int (jI k)), some (.int (jI w)), some (.int (jI r)), some (.long least), none, some (.int (jI r)), some (.long z10), none]) rfl ?_
        refine w_lload rfl ?_
        refine w_lload rfl ?_
        refine w_lcmp (fun z15 hl15 hh15 => ?_)
        refine w_ige (by omega) (fun h16 => ?_) (fun h16 => ?_)
        · skip
          refine w_step rfl ?_
          refine w_lload rfl ?_
          refine w_goto ?_
          refine w_step rfl ?_
          refine w_lstore (lv' := [some (.ref 68), some (.int (jI k)), some (.int (jI w)), some (.int (jI r)), some (.long least), none, some (.int (jI r)), some (.long z10), none]) rfl ?_
          refine w_iinc (lv' := [some (.ref 68), some (.int (jI k)), some (.int (jI w)), some (.int (jI r)), some (.long least), none, some (.int (jI (r + 1))), some (.long z10), none]) kc_1 rfl rfl ?_
          refine w_goto ?_
          exact ih4 _ r least (r + 1) (some z10) t10 ok10 fr10 wf10 (by omega) (by omega) (by omega) (by omega) (by omega) (by omega)
        refine w_lload rfl ?_
        refine w_goto ?_
        refine w_step rfl ?_
        refine w_lstore (lv' := [some (.ref 68), some (.int (jI k)), some (.int (jI w)), some (.int (jI r)), some (.long z10), none, some (.int (jI r)), some (.long z10), none]) rfl ?_
        refine w_iinc (lv' := [some (.ref 68), some (.int (jI k)), some (.int (jI w)), some (.int (jI r)), some (.long z10), none, some (.int (jI (r + 1))), some (.long z10), none]) kc_1 rfl rfl ?_
        refine w_goto ?_
        exact ih4 _ r z10 (r + 1) (some z10) t10 ok10 fr10 wf10 (by omega) (by omega) (by omega) (by omega) (by omega) (by omega)
    exact key4 5 _ 0 z5 1 none t5 ok5 fr5 wf5 (by omega) (by omega) (by omega) (by omega) (by omega) (by omega)
  refine w_push kc_m1000000011 ?_
  refine w_retI rfl ?_
  exact ⟨ok, fr, (by omega), (by omega)⟩
end
