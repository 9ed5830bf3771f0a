theorem pour_wk {sz c v : Int} {rw w g h : Nat → Int} (hc : 0 ≤ c) (hn : ¬ (c < sz ∧ ¬ rw c.toNat = -1000000005)) (hv : v = w c.toNat) (hg : ∀ m : Nat, g m = if (m : Int) < c then prF sz rw w m else w m) (hh : ∀ m : Nat, h m = if m = c.toNat then v else g m) : ∀ m : Nat, h m = if (m : Int) < c + 1 then prF sz rw w m else w m := by
  refine pour_wn hc hn (fun m => ?_)
  rw [hh m]
  by_cases e : m = c.toNat
  · rw [if_pos e, hv, if_neg (by omega), e]
  · rw [if_neg e, hg m]
theorem pour_end {sz c : Int} {rw w : Nat → Int} {m : Nat} (hc : c = sz) : (if (m : Int) < c then prF sz rw w m else w m) = prF sz rw w m := by
  split
  · rfl
  · unfold prF
    rw [if_neg (by omega)]
set_option maxRecDepth 100000 in
set_option maxHeartbeats 4000000 in
theorem c_X9_swap {d : Nat} {t : TS}  (ok : OK t) (q0 : WF t 69) : CI (EX FU (d + 6)) 172 [.ref 68] (mk t) (fun z t' => OK t' ∧ Fr [(69, 100), (81, 100), (82, 100)] t t' ∧ (-2147483648 ≤ z) ∧ (z ≤ 2147483647) ∧ (Dq t t') ∧ (tA t' 69 0 = tA t 69 0) ∧ (tA t' 69 2 = tA t 69 2)) := by
  refine CI_ent (d := d + 5) (Bk := bX9_swap) (nL := 6) rfl rfl rfl (Nat.le_of_ble_eq_true rfl) ?_
  show Rn _ 1000000 0 [some (.ref 68), none, none, none, none, none] [] _ _
  have fr : Fr [(69, 100), (81, 100), (82, 100)] t t := Fr.rf _ _
  have hn0 := (ok.a (ax_69 nr_1)).1
  have hn1 := (ok.a (ax_69 nr_1)).2
  have c0 : tA t 69 0 = tA t 69 0 := rfl
  have c2 : tA t 69 2 = tA t 69 2 := rfl
  have dq : Dq t t := Dq.rf t
  refine w_step rfl ?_
  refine w_push kc_m1 ?_
  refine w_istore (lv' := [some (.ref 68), some (.int (jI (-1))), none, none, none, none]) rfl ?_
  refine w_aload rfl ?_
  refine w_callV0I (oj_68 _).choose_spec rfl (c_X9_picture ok q0) ?_
  rintro z1 t1 ⟨ok1, fq1, hp1_0, hp1_1⟩
  have fr1 := fr.then fq1 (by simp)
  have wf1 := q0.fr fq1 (by simp)
  have dq1 := dq.fr fq1 (by simp)
  have c0 : tA t1 69 0 = tA t 69 0 := (fq1.2.1 69 (by simp) 0).trans c0
  have c2 : tA t1 69 2 = tA t 69 2 := (fq1.2.1 69 (by simp) 2).trans c2
  refine w_istore (lv' := [some (.ref 68), some (.int (jI (-1))), some (.int (jI z1)), none, none, none]) rfl ?_
  refine w_push kc_0 ?_
  refine w_istore (lv' := [some (.ref 68), some (.int (jI (-1))), some (.int (jI z1)), some (.int (jI 0)), none, none]) rfl ?_
  refine w_goto ?_
  have key1 : ∀ (n1 M1 : Nat) (best : Int) (least : Int) (x : Int) (o4 : Option Int) (o5 : Option Int) (t2 : TS), OK t2 → Fr [(69, 100), (81, 100), (82, 100)] t t2 → WF t2 69 → Dq t t2 → (-1 ≤ best) → (best ≤ 2000) → (0 ≤ least) → (least ≤ 2376) → (0 ≤ x) → (x ≤ 12) → (tA t2 69 0 = tA t 69 0) → (tA t2 69 2 = tA t 69 2) → 12 - x < (n1 : Int) → 1500 * n1 + (1000) ≤ M1 → Rn (bX9_swap (EX FU (d + 5))) M1 1 [some (.ref 68), some (.int (jI best)), some (.int (jI least)), some (.int (jI x)), dv o4, dv o5] [] (mk t2) (PI (fun z t' => OK t' ∧ Fr [(69, 100), (81, 100), (82, 100)] t t' ∧ (-2147483648 ≤ z) ∧ (z ≤ 2147483647) ∧ (Dq t t') ∧ (tA t' 69 0 = tA t 69 0) ∧ (tA t' 69 2 = tA t 69 2))) := by
    intro n1
    induction n1 with
    | zero => intro M1 best least x o4 o5 t2 ok2 fr2 wf2 dq2 i1_0 i1_1 i1_2 i1_3 i1_4 i1_5 i1_6 i1_7 v1 f1; exfalso; omega
    | succ n1 ih1 =>
      intro M1 best least x o4 o5 t2 ok2 fr2 wf2 dq2 i1_0 i1_1 i1_2 i1_3 i1_4 i1_5 i1_6 i1_7 v1 f1
      obtain ⟨M1, rfl⟩ : ∃ m, M1 = m + 1500 := ⟨M1 - 1500, by omega⟩
      have c0 := i1_6
      have c2 := i1_7
      refine w_step rfl ?_
      refine w_iload rfl ?_
      refine w_aload rfl ?_
      refine w_getR (g_68_0 _) ?_
      refine w_push kc_1 ?_
      refine w_iald (i := 1) (ai_69 _) (by omega) (by omega) (ax_69 nr_1) ok2 (fun z3 hz3 hl3 hh3 => ?_)
      refine w_cge (by omega) (fun h4 => ?_) (fun h4 => ?_)
      · skip
        refine w_step rfl ?_
        refine w_iload rfl ?_
        refine w_callS1I rfl (c_X9_told0 ok2 (by omega) (by omega)) ?_
        rintro z5 t5 ⟨rfl, hp5_0⟩
        refine w_retI rfl ?_
        exact ⟨ok2, fr2, (by omega), (by omega), dq2, c0, c2⟩
      refine w_iload rfl ?_
      refine w_push kc_1 ?_
      refine w_add ?_
      refine w_istore (lv' := [some (.ref 68), some (.int (jI best)), some (.int (jI least)), some (.int (jI x)), some (.int (jI (x + 1))), dv o5]) rfl ?_
      refine w_goto ?_
      have key2 : ∀ (n2 M2 : Nat) (best : Int) (least : Int) (y : Int) (o5 : Option Int) (t6 : TS), OK t6 → Fr [(69, 100), (81, 100), (82, 100)] t t6 → WF t6 69 → Dq t t6 → (-1 ≤ best) → (best ≤ 2000) → (0 ≤ least) → (least ≤ 2376) → (0 ≤ y) → (y ≤ 13) → (tA t6 69 0 = tA t 69 0) → (tA t6 69 2 = tA t 69 2) → 13 - y < (n2 : Int) → 60 * n2 + (1500 * n1 + 1000) ≤ M2 → Rn (bX9_swap (EX FU (d + 5))) M2 2 [some (.ref 68), some (.int (jI best)), some (.int (jI least)), some (.int (jI x)), some (.int (jI y)), dv o5] [] (mk t6) (PI (fun z t' => OK t' ∧ Fr [(69, 100), (81, 100), (82, 100)] t t' ∧ (-2147483648 ≤ z) ∧ (z ≤ 2147483647) ∧ (Dq t t') ∧ (tA t' 69 0 = tA t 69 0) ∧ (tA t' 69 2 = tA t 69 2))) := by
        intro n2
        induction n2 with
        | zero => intro M2 best least y o5 t6 ok6 fr6 wf6 dq6 i2_0 i2_1 i2_2 i2_3 i2_4 i2_5 i2_6 i2_7 v2 f2; exfalso; omega
        | succ n2 ih2 =>
          intro M2 best least y o5 t6 ok6 fr6 wf6 dq6 i2_0 i2_1 i2_2 i2_3 i2_4 i2_5 i2_6 i2_7 v2 f2
          obtain ⟨M2, rfl⟩ : ∃ m, M2 = m + 60 := ⟨M2 - 60, by omega⟩
          have c0 := i2_6
          have c2 := i2_7
          refine w_step rfl ?_
          refine w_iload rfl ?_
          refine w_aload rfl ?_
          refine w_getR (g_68_0 _) ?_
          refine w_push kc_1 ?_
          refine w_iald (i := 1) (ai_69 _) (by omega) (by omega) (ax_69 nr_1) ok6 (fun z7 hz7 hl7 hh7 => ?_)
          refine w_cge (by omega) (fun h8 => ?_) (fun h8 => ?_)
          · skip
            refine w_step rfl ?_
            refine w_iinc (lv' := [some (.ref 68), some (.int (jI best)), some (.int (jI least)), some (.int (jI (x + 1))), some (.int (jI y)), dv o5]) kc_1 rfl rfl ?_
            refine w_goto ?_
            exact ih1 _ best least (x + 1) (some y) o5 t6 ok6 fr6 wf6 dq6 (by omega) (by omega) (by omega) (by omega) (by omega) (by omega) c0 c2 (by omega) (by omega)
          refine w_aload rfl ?_
          refine w_iload rfl ?_
          refine w_push kc_3 ?_
          refine w_callV2I (oj_68 _).choose_spec rfl (c_X9_of ok6 (by omega) (by omega) (by omega) (by omega)) ?_
          rintro z9 t9 ⟨rfl, hp9_0, hp9_1, hp9_2⟩
          have hr9 := of_r3 (s := x) ok6 (by omega)
          refine w_push kc_12 ?_
          refine w_ceq (by omega) (fun h10 => ?_) (fun h10 => ?_)
          · skip
            refine w_step rfl ?_
            refine w_iinc (lv' := [some (.ref 68), some (.int (jI best)), some (.int (jI least)), some (.int (jI x)), some (.int (jI (y + 1))), dv o5]) kc_1 rfl rfl ?_
            refine w_goto ?_
            exact ih2 _ best least (y + 1) o5 t6 ok6 fr6 wf6 dq6 (by omega) (by omega) (by omega) (by omega) (by omega) (by omega) c0 c2 (by omega) (by omega)
          refine w_aload rfl ?_
          refine w_iload rfl ?_
          refine w_push kc_3 ?_
          refine w_callV2I (oj_68 _).choose_spec rfl (c_X9_of ok6 (by omega) (by omega) (by omega) (by omega)) ?_
          rintro z11 t11 ⟨rfl, hp11_0, hp11_1, hp11_2⟩
          have hr11 := of_r3 (s := y) ok6 (by omega)
          refine w_push kc_12 ?_
          refine w_ceq (by omega) (fun h12 => ?_) (fun h12 => ?_)
          · skip
            refine w_step rfl ?_
            refine w_iinc (lv' := [some (.ref 68), some (.int (jI best)), some (.int (jI least)), some (.int (jI x)), some (.int (jI (y + 1))), dv o5]) kc_1 rfl rfl ?_
            refine w_goto ?_
            exact ih2 _ best least (y + 1) o5 t6 ok6 fr6 wf6 dq6 (by omega) (by omega) (by omega) (by omega) (by omega) (by omega) c0 c2 (by omega) (by omega)
          refine w_aload rfl ?_
          refine w_iload rfl ?_
          refine w_iload rfl ?_
          refine w_callV2V (oj_68 _).choose_spec rfl (c_X9_change ok6 (by omega) (by omega) (by omega) (by omega)) ?_
          rintro t13 ⟨ok13, fq13, hp13_0, hp13_1, hp13_2⟩
          have fr13 := fr6.then fq13 (by simp)
          have wf13 := wf6.dq hp13_0
          have dq13 := dq6.trans hp13_0
          have c0 : tA t13 69 0 = tA t 69 0 := hp13_1.trans c0
          have c2 : tA t13 69 2 = tA t 69 2 := hp13_2.trans c2
          refine w_aload rfl ?_
          refine w_callV0I (oj_68 _).choose_spec rfl (c_X9_picture ok13 wf13) ?_
          rintro z14 t14 ⟨ok14, fq14, hp14_0, hp14_1⟩
          have fr14 := fr13.then fq14 (by simp)
          have wf14 := wf13.fr fq14 (by simp)
          have dq14 := dq13.fr fq14 (by simp)
          have c0 : tA t14 69 0 = tA t 69 0 := (fq14.2.1 69 (by simp) 0).trans c0
          have c2 : tA t14 69 2 = tA t 69 2 := (fq14.2.1 69 (by simp) 2).trans c2
          refine w_istore (lv' := [some (.ref 68), some (.int (jI best)), some (.int (jI least)), some (.int (jI x)), some (.int (jI y)), some (.int (jI z14))]) rfl ?_
          refine w_aload rfl ?_
          refine w_iload rfl ?_
          refine w_iload rfl ?_
          refine w_callV2V (oj_68 _).choose_spec rfl (c_X9_change ok14 (by omega) (by omega) (by omega) (by omega)) ?_
          rintro t15 ⟨ok15, fq15, hp15_0, hp15_1, hp15_2⟩
          have fr15 := fr14.then fq15 (by simp)
          have wf15 := wf14.dq hp15_0
          have dq15 := dq14.trans hp15_0
          have c0 : tA t15 69 0 = tA t 69 0 := hp15_1.trans c0
          have c2 : tA t15 69 2 = tA t 69 2 := hp15_2.trans c2
          refine w_iload rfl ?_
          refine w_iload rfl ?_
          refine w_cge (by omega) (fun h16 => ?_) (fun h16 => ?_)
          · skip
            refine w_step rfl ?_
            refine w_iload rfl ?_
            refine w_goto ?_
            refine w_step rfl ?_
            refine w_istore (lv' := [some (.ref 68), some (.int (jI best)), some (.int (jI least)), some (.int (jI x)), some (.int (jI y)), some (.int (jI z14))]) rfl ?_
            refine w_iload rfl ?_
            refine w_iload rfl ?_
            refine w_cge (by omega) (fun h17 => ?_) (fun h17 => ?_)
            · skip
              refine w_step rfl ?_
              refine w_iload rfl ?_
              refine w_goto ?_
              refine w_step rfl ?_
              refine w_istore (lv' := [some (.ref 68), some (.int (jI best)), some (.int (jI least)), some (.int (jI x)), some (.int (jI y)), some (.int (jI z14))]) rfl ?_
              refine w_goto ?_
              refine w_step rfl ?_
              refine w_iinc (lv' := [some (.ref 68), some (.int (jI best)), some (.int (jI least)), some (.int (jI x)), some (.int (jI (y + 1))), some (.int (jI z14))]) kc_1 rfl rfl ?_
              refine w_goto ?_
              exact ih2 _ best least (y + 1) (some z14) t15 ok15 fr15 wf15 dq15 (by omega) (by omega) (by omega) (by omega) (by omega) (by omega) c0 c2 (by omega) (by omega)
            refine w_iload rfl ?_
            refine w_goto ?_
            refine w_step rfl ?_
            refine w_istore (lv' := [some (.ref 68), some (.int (jI best)), some (.int (jI z14)), some (.int (jI x)), some (.int (jI y)), some (.int (jI z14))]) rfl ?_
            refine w_goto ?_
            refine w_step rfl ?_
            refine w_iinc (lv' := [some (.ref 68), some (.int (jI best)), some (.int (jI z14)), some (.int (jI x)), some (.int (jI (y + 1))), some (.int (jI z14))]) kc_1 rfl rfl ?_
            refine w_goto ?_
            exact ih2 _ best z14 (y + 1) (some z14) t15 ok15 fr15 wf15 dq15 (by omega) (by omega) (by omega) (by omega) (by omega) (by omega) c0 c2 (by omega) (by omega)
          refine w_push kc_100 ?_
          refine w_iload rfl ?_
          refine w_mul ?_
          refine w_iload rfl ?_
          refine w_add ?_
          refine w_goto ?_
          refine w_step rfl ?_
          refine w_istore (lv' := [some (.ref 68), some (.int (jI ((100 * x) + y))), some (.int (jI least)), some (.int (jI x)), some (.int (jI y)), some (.int (jI z14))]) rfl ?_
          refine w_iload rfl ?_
          refine w_iload rfl ?_
          refine w_cge (by omega) (fun h18 => ?_) (fun h18 => ?_)
          · skip
            refine w_step rfl ?_
            refine w_iload rfl ?_
            refine w_goto ?_
            refine w_step rfl ?_
            refine w_istore (lv' := [some (.ref 68), some (.int (jI ((100 * x) + y))), some (.int (jI least)), some (.int (jI x)), some (.int (jI y)), some (.int (jI z14))]) rfl ?_
            refine w_goto ?_
            refine w_step rfl ?_
            refine w_iinc (lv' := [some (.ref 68), some (.int (jI ((100 * x) + y))), some (.int (jI least)), some (.int (jI x)), some (.int (jI (y + 1))), some (.int (jI z14))]) kc_1 rfl rfl ?_
            refine w_goto ?_
            exact ih2 _ ((100 * x) + y) least (y + 1) (some z14) t15 ok15 fr15 wf15 dq15 (by omega) (by omega) (by omega) (by omega) (by omega) (by omega) c0 c2 (by omega) (by omega)
          refine w_iload rfl ?_
          refine w_goto ?_
          refine w_step rfl ?_
          refine w_istore (lv' := [some (.ref 68), some (.int (jI ((100 * x) + y))), some (.int (jI z14)), some (.int (jI x)), some (.int (jI y)), some (.int (jI z14))]) rfl ?_
          refine w_goto ?_
          refine w_step rfl ?_
          refine w_iinc (lv' := [some (.ref 68), some (.int (jI ((100 * x) + y))), some (.int (jI z14)), some (.int (jI x)), some (.int (jI (y + 1))), some (.int (jI z14))]) kc_1 rfl rfl ?_
          refine w_goto ?_
          exact ih2 _ ((100 * x) + y) z14 (y + 1) (some z14) t15 ok15 fr15 wf15 dq15 (by omega) (by omega) (by omega) (by omega) (by omega) (by omega) c0 c2 (by omega) (by omega)
      exact key2 14 _ best least (x + 1) o5 t2 ok2 fr2 wf2 dq2 (by omega) (by omega) (by omega) (by omega) (by omega) (by omega) c0 c2 (by omega) (by omega)
  exact key1 13 _ (-1) z1 0 none none t1 ok1 fr1 wf1 dq1 (by omega) (by omega) (by omega) (by omega) (by omega) (by omega) c0 c2 (by omega) (by omega)
set_option maxRecDepth 100000 in
set_option maxHeartbeats 4000000 in
theorem c_X9_feed {d : Nat} {t : TS} {x y w : Int}  (ok : OK t) (q0 : -2147483648 ≤ x) (q1 : x ≤ 2147483647) (q2 : -2147483648 ≤ y) (q3 : y ≤ 2147483647) (q4 : -2147483648 ≤ w) (q5 : w ≤ 2147483647) : CI (EX FU (d + 1)) 187 [.ref 68, .int (jI x), .int (jI y), .int (jI w)] (mk t) (fun z t' => OK t' ∧ Fr [(68, 9), (75, 100)] t t' ∧ (((96 < tI t 68 9 + 12) ∧ z = (-1000000003) ∧ t' = t) ∨ ((tI t 68 9 + 12 ≤ 96) ∧ z = tI t 68 9 + 12 ∧ (tI t' 68 9 = tI t 68 9 + 12)))) := by
  refine CI_ent (d := d + 0) (Bk := bX9_feed) (nL := 6) rfl rfl rfl (Nat.le_of_ble_eq_true rfl) ?_
  show Rn _ 1000000 0 [some (.ref 68), some (.int (jI x)), some (.int (jI y)), some (.int (jI w)), none, none] [] _ _
  have fr : Fr [(68, 9), (75, 100)] t t := Fr.rf _ _
  have hn0 := (ok.a (ax_69 nr_1)).1
  have hn1 := (ok.a (ax_69 nr_1)).2
  refine w_step rfl ?_
  refine w_aload rfl ?_
  refine w_getI (g_68_9 _) fe_68_9 ok (fun z1 hz1 hl1 hh1 => ?_)
  refine w_push kc_12 ?_
  refine w_add ?_
  refine w_push kc_96 ?_
  refine w_cle (by omega) (fun h2 => ?_) (fun h2 => ?_)
  · skip
    refine w_step rfl ?_
    refine w_push kc_0 ?_
    refine w_istore (lv' := [some (.ref 68), some (.int (jI x)), some (.int (jI y)), some (.int (jI w)), some (.int (jI 0)), none]) rfl ?_
    refine w_goto ?_
    have key2 : ∀ (n2 M2 : Nat) (k : Int) (o5 : Option Int) (t3 : TS), OK t3 → Fr [(68, 9), (75, 100)] t t3 → (0 ≤ k) → (k ≤ 12) → (tI t3 68 9 = tI t 68 9) → 12 - k < (n2 : Int) → 60 * n2 + (1000) ≤ M2 → Rn (bX9_feed (EX FU (d + 0))) M2 2 [some (.ref 68), some (.int (jI x)), some (.int (jI y)), some (.int (jI w)), some (.int (jI k)), dv o5] [] (mk t3) (PI (fun z t' => OK t' ∧ Fr [(68, 9), (75, 100)] t t' ∧ (((96 < tI t 68 9 + 12) ∧ z = (-1000000003) ∧ t' = t) ∨ ((tI t 68 9 + 12 ≤ 96) ∧ z = tI t 68 9 + 12 ∧ (tI t' 68 9 = tI t 68 9 + 12))))) := by
      intro n2
      induction n2 with
      | zero => intro M2 k o5 t3 ok3 fr3 i2_0 i2_1 i2_2 v2 f2; exfalso; omega
      | succ n2 ih2 =>
        intro M2 k o5 t3 ok3 fr3 i2_0 i2_1 i2_2 v2 f2
        obtain ⟨M2, rfl⟩ : ∃ m, M2 = m + 60 := ⟨M2 - 60, by omega⟩
        refine w_step rfl ?_
        refine w_iload rfl ?_
        refine w_push kc_12 ?_
        refine w_cge (by omega) (fun h4 => ?_) (fun h4 => ?_)
        · skip
          refine w_step rfl ?_
          refine w_aload rfl ?_
          refine w_dupR ?_
          refine w_getI (g_68_9 _) fe_68_9 ok3 (fun z5 hz5 hl5 hh5 => ?_)
          refine w_push kc_12 ?_
          refine w_add ?_
          refine w_putI (p_68_9 _) fe_68_9 ok3 (by omega) (fun t6 ht6 ok6 => ?_)
          have fr6 := fr3.uI ht6 (by simp)
          have ex : tI t6 68 9 = tI t 68 9 + 12 := by rw [ht6, tI_uI, if_pos ⟨rfl, rfl⟩]; omega
          refine w_aload rfl ?_
          refine w_getI (g_68_9 _) fe_68_9 ok6 (fun z7 hz7 hl7 hh7 => ?_)
          refine w_retI rfl ?_
          exact ⟨ok6, fr6, (by first | (exact Or.inl ⟨by omega, by first | omega | (subst_vars; rfl), rfl⟩) | (exact Or.inr (⟨by omega, by first | omega | (subst_vars; rfl), by omega⟩)))⟩
        refine w_iload rfl ?_
        refine w_push kc_4 ?_
        refine w_cge (by omega) (fun h8 => ?_) (fun h8 => ?_)
        · skip
          refine w_step rfl ?_
          refine w_iload rfl ?_
          refine w_push kc_8 ?_
          refine w_cge (by omega) (fun h9 => ?_) (fun h9 => ?_)
          · skip
            refine w_step rfl ?_
            refine w_iload rfl ?_
            refine w_goto ?_
            refine w_step rfl ?_
            refine w_istore (lv' := [some (.ref 68), some (.int (jI x)), some (.int (jI y)), some (.int (jI w)), some (.int (jI k)), some (.int (jI w))]) rfl ?_
            refine w_aload rfl ?_
            refine w_getR (g_68_8 _) ?_
            refine w_aload rfl ?_
            refine w_getI (g_68_9 _) fe_68_9 ok3 (fun z10 hz10 hl10 hh10 => ?_)
            refine w_iload rfl ?_
            refine w_add ?_
            refine w_iload rfl ?_
            refine w_push kc_24 ?_
            refine w_push kc_8 ?_
            refine w_iload rfl ?_
            refine w_push kc_4 ?_
            refine w_rem (by omega) ?_
            refine w_mul ?_
            refine w_sub ?_
            refine w_bin (fun z11 hz11 hl11 hh11 => ?_)
            refine w_push kc_255 ?_
            refine w_bin (fun z12 hz12 hl12 hh12 => ?_)
            have hu12 := ah_and255 hz12
            refine w_iast (i := ((z10 + k)).toNat) (ai_75 _) rfl (by omega) (by omega) (ae_75 _) ok3 (by omega) (fun t13 ht13 ok13 => ?_)
            have fr13 := fr3.uA ht13 (by simp)
            have ew : tI t13 68 9 = tI t 68 9 := by rw [ht13, tI_uA]; exact i2_2
            refine w_iinc (lv' := [some (.ref 68), some (.int (jI x)), some (.int (jI y)), some (.int (jI w)), some (.int (jI (k + 1))), some (.int (jI w))]) kc_1 rfl rfl ?_
            refine w_goto ?_
            exact ih2 _ (k + 1) (some w) t13 ok13 fr13 (by omega) (by omega) ew (by omega) (by omega)
          refine w_iload rfl ?_
          refine w_goto ?_
          refine w_step rfl ?_
          refine w_istore (lv' := [some (.ref 68), some (.int (jI x)), some (.int (jI y)), some (.int (jI w)), some (.int (jI k)), some (.int (jI y))]) rfl ?_
          refine w_aload rfl ?_
          refine w_getR (g_68_8 _) ?_
          refine w_aload rfl ?_
          refine w_getI (g_68_9 _) fe_68_9 ok3 (fun z14 hz14 hl14 hh14 => ?_)
          refine w_iload rfl ?_
          refine w_add ?_
          refine w_iload rfl ?_
          refine w_push kc_24 ?_
          refine w_push kc_8 ?_
          refine w_iload rfl ?_
          refine w_push kc_4 ?_
          refine w_rem (by omega) ?_
          refine w_mul ?_
          refine w_sub ?_
          refine w_bin (fun z15 hz15 hl15 hh15 => ?_)
          refine w_push kc_255 ?_
          refine w_bin (fun z16 hz16 hl16 hh16 => ?_)
          have hu16 := ah_and255 hz16
          refine w_iast (i := ((z14 + k)).toNat) (ai_75 _) rfl (by omega) (by omega) (ae_75 _) ok3 (by omega) (fun t17 ht17 ok17 => ?_)
          have fr17 := fr3.uA ht17 (by simp)
          have ew : tI t17 68 9 = tI t 68 9 := by rw [ht17, tI_uA]; exact i2_2
          refine w_iinc (lv' := [some (.ref 68), some (.int (jI x)), some (.int (jI y)), some (.int (jI w)), some (.int (jI (k + 1))), some (.int (jI y))]) kc_1 rfl rfl ?_
          refine w_goto ?_
          exact ih2 _ (k + 1) (some y) t17 ok17 fr17 (by omega) (by omega) ew (by omega) (by omega)
        refine w_iload rfl ?_
        refine w_goto ?_
        refine w_step rfl ?_
        refine w_istore (lv' := [some (.ref 68), some (.int (jI x)), some (.int (jI y)), some (.int (jI w)), some (.int (jI k)), some (.int (jI x))]) rfl ?_
        refine w_aload rfl ?_
        refine w_getR (g_68_8 _) ?_
        refine w_aload rfl ?_
        refine w_getI (g_68_9 _) fe_68_9 ok3 (fun z18 hz18 hl18 hh18 => ?_)
        refine w_iload rfl ?_
        refine w_add ?_
        refine w_iload rfl ?_
        refine w_push kc_24 ?_
        refine w_push kc_8 ?_
        refine w_iload rfl ?_
        refine w_push kc_4 ?_
        refine w_rem (by omega) ?_
        refine w_mul ?_
        refine w_sub ?_
        refine w_bin (fun z19 hz19 hl19 hh19 => ?_)
        refine w_push kc_255 ?_
        refine w_bin (fun z20 hz20 hl20 hh20 => ?_)
        have hu20 := ah_and255 hz20
        refine w_iast (i := ((z18 + k)).toNat) (ai_75 _) rfl (by omega) (by omega) (ae_75 _) ok3 (by omega) (fun t21 ht21 ok21 => ?_)
        have fr21 := fr3.uA ht21 (by simp)
        have ew : tI t21 68 9 = tI t 68 9 := by rw [ht21, tI_uA]; exact i2_2
        refine w_iinc (lv' := [some (.ref 68), some (.int (jI x)), some (.int (jI y)), some (.int (jI w)), some (.int (jI (k + 1))), some (.int (jI x))]) kc_1 rfl rfl ?_
        refine w_goto ?_
        exact ih2 _ (k + 1) (some x) t21 ok21 fr21 (by omega) (by omega) ew (by omega) (by omega)
    exact key2 13 _ 0 none t ok fr (by omega) (by omega) rfl (by omega) (by omega)
  refine w_push kc_m1000000003 ?_
  refine w_retI rfl ?_
  exact ⟨ok, fr, (by first | (exact Or.inl ⟨by omega, by first | omega | (subst_vars; rfl), rfl⟩) | (exact Or.inr (⟨by omega, by first | omega | (subst_vars; rfl), by omega⟩)))⟩
set_option maxRecDepth 100000 in
set_option maxHeartbeats 4000000 in
theorem c_X9_trim {d : Nat} {t : TS} {n : Int}  (ok : OK t) (q0 : -2147483648 ≤ n) (q1 : n ≤ 2147483647) : CI (EX FU (d + 2)) 188 [.ref 68, .int (jI n)] (mk t) (fun z t' => OK t' ∧ Fr [(68, 9)] t t' ∧ (((¬ (0 ≤ n ∧ n ≤ tI t 68 9)) ∧ z = (-1000000001) ∧ t' = t) ∨ ((0 ≤ n ∧ n ≤ tI t 68 9) ∧ z = n ∧ (t' = uI t 68 9 n)))) := by
  refine CI_ent (d := d + 1) (Bk := bX9_trim) (nL := 2) rfl rfl rfl (Nat.le_of_ble_eq_true rfl) ?_
  show Rn _ 1000000 0 [some (.ref 68), some (.int (jI n))] [] _ _
  have fr : Fr [(68, 9)] t t := Fr.rf _ _
  have hn0 := (ok.a (ax_69 nr_1)).1
  have hn1 := (ok.a (ax_69 nr_1)).2
  refine w_step rfl ?_
  refine w_iload rfl ?_
  refine w_push kc_0 ?_
  refine w_aload rfl ?_
  refine w_getI (g_68_9 _) fe_68_9 ok (fun z1 hz1 hl1 hh1 => ?_)
  refine w_callS3I rfl (c_X9_in ok (by omega) (by omega) (by omega) (by omega) (by omega) (by omega)) ?_
  rintro z2 t2 ⟨rfl, hp2_0⟩
  rcases hp2_0 with ⟨rfl, hp2_0⟩ | ⟨rfl, hp2_0⟩
  · skip
    refine w_ine (by omega) (fun h => absurd h (by omega)) (fun _ => ?_)
    refine w_push kc_m1000000001 ?_
    refine w_retI rfl ?_
    exact ⟨ok, fr, (by first | (exact Or.inl ⟨by omega, by first | omega | (subst_vars; rfl), rfl⟩) | (exact Or.inr (⟨by omega, by first | omega | (subst_vars; rfl), by assumption⟩)))⟩
  refine w_ine (by omega) (fun _ => ?_) (fun h => absurd (by omega) h)
  refine w_step rfl ?_
  refine w_aload rfl ?_
  refine w_iload rfl ?_
  refine w_putI (p_68_9 _) fe_68_9 ok (by omega) (fun t3 ht3 ok3 => ?_)
  have fr3 := fr.uI ht3 (by simp)
  refine w_iload rfl ?_
  refine w_retI rfl ?_
  exact ⟨ok3, fr3, (by first | (exact Or.inl ⟨by omega, by first | omega | (subst_vars; rfl), rfl⟩) | (exact Or.inr (⟨by omega, by first | omega | (subst_vars; rfl), by assumption⟩)))⟩
set_option maxRecDepth 100000 in
set_option maxHeartbeats 4000000 in
theorem c_X9_textTold {d : Nat} {t : TS} {x w : Int}  (ok : OK t) (q0 : -2147483648 ≤ x) (q1 : x ≤ 2147483647) (q2 : -2147483648 ≤ w) (q3 : w ≤ 2147483647) : CI (EX FU (d + 2)) 201 [.ref 68, .int (jI x), .int (jI w)] (mk t) (fun z t' => t = t' ∧ (-2147483648 ≤ z) ∧ (z ≤ 2147483647)) := by
  refine CI_ent (d := d + 1) (Bk := bX9_textTold) (nL := 3) rfl rfl rfl (Nat.le_of_ble_eq_true rfl) ?_
  show Rn _ 1000000 0 [some (.ref 68), some (.int (jI x)), some (.int (jI w))] [] _ _
  have hn0 := (ok.a (ax_69 nr_1)).1
  have hn1 := (ok.a (ax_69 nr_1)).2
  refine w_step rfl ?_
  refine w_iload rfl ?_
  refine w_push kc_0 ?_
  refine w_aload rfl ?_
  refine w_getR (g_68_0 _) ?_
  refine w_push kc_4 ?_
  refine w_iald (i := 4) (ai_69 _) (by omega) (by omega) (ax_69 nr_4) ok (fun z1 hz1 hl1 hh1 => ?_)
  refine w_push kc_1 ?_
  refine w_sub ?_
  refine w_callS3I rfl (c_X9_in ok (by omega) (by omega) (by omega) (by omega) (by omega) (by omega)) ?_
  rintro z2 t2 ⟨rfl, hp2_0⟩
  rcases hp2_0 with ⟨rfl, hp2_0⟩ | ⟨rfl, hp2_0⟩
  · skip
    refine w_ieq (by omega) (fun _ => ?_) (fun h => absurd (by omega) h)
    refine w_step rfl ?_
    refine w_push kc_m1000000001 ?_
    refine w_retI rfl ?_
    exact ⟨rfl, (by omega), (by omega)⟩
  refine w_ieq (by omega) (fun h => absurd h (by omega)) (fun _ => ?_)
  refine w_iload rfl ?_
  refine w_push kc_0 ?_
  refine w_push kc_1 ?_
  refine w_callS3I rfl (c_X9_in ok (by omega) (by omega) (by omega) (by omega) (by omega) (by omega)) ?_
  rintro z3 t3 ⟨rfl, hp3_0⟩
  rcases hp3_0 with ⟨rfl, hp3_0⟩ | ⟨rfl, hp3_0⟩
  · skip
    refine w_ine (by omega) (fun h => absurd h (by omega)) (fun _ => ?_)
    refine w_goto ?_
    refine w_step rfl ?_
    refine w_push kc_m1000000001 ?_
    refine w_retI rfl ?_
    exact ⟨rfl, (by omega), (by omega)⟩
  refine w_ine (by omega) (fun _ => ?_) (fun h => absurd (by omega) h)
  refine w_step rfl ?_
  refine w_iload rfl ?_
  refine w_ine (by omega) (fun h4 => ?_) (fun h4 => ?_)
  · skip
    refine w_step rfl ?_
    refine w_aload rfl ?_
    refine w_getR (g_68_0 _) ?_
    refine w_push kc_89 ?_
    refine w_push kc_2 ?_
    refine w_iload rfl ?_
    refine w_mul ?_
    refine w_add ?_
    refine w_push kc_1 ?_
    refine w_add ?_
    refine w_iald (i := (((89 + (2 * x)) + 1)).toNat) (ai_69 _) (by omega) (by omega) (ax_69 (nr_T1 (s := x.toNat) (by omega))) ok (fun z5 hz5 hl5 hh5 => ?_)
    refine w_goto ?_
    refine w_step rfl ?_
    refine w_retI rfl ?_
    exact ⟨rfl, (by omega), (by omega)⟩
  refine w_aload rfl ?_
  refine w_getR (g_68_0 _) ?_
  refine w_push kc_89 ?_
  refine w_push kc_2 ?_
  refine w_iload rfl ?_
  refine w_mul ?_
  refine w_add ?_
  refine w_iald (i := ((89 + (2 * x))).toNat) (ai_69 _) (by omega) (by omega) (ax_69 (nr_T0 (s := x.toNat) (by omega))) ok (fun z6 hz6 hl6 hh6 => ?_)
  refine w_push kc_1000 ?_
  refine w_div (by omega) ?_
  refine w_goto ?_
  refine w_step rfl ?_
  refine w_retI rfl ?_
  exact ⟨rfl, (by omega), (by omega)⟩
set_option maxRecDepth 100000 in
set_option maxHeartbeats 4000000 in
theorem c_X9_why {d : Nat} {t : TS} {k : Int}  (ok : OK t) (q0 : -2147483648 ≤ k) (q1 : k ≤ 2147483647) : CI (EX FU (d + 2)) 203 [.ref 68, .int (jI k)] (mk t) (fun z t' => t = t' ∧ (-2147483648 ≤ z) ∧ (z ≤ 2147483647)) := by
  refine CI_ent (d := d + 1) (Bk := bX9_why) (nL := 3) rfl rfl rfl (Nat.le_of_ble_eq_true rfl) ?_
  show Rn _ 1000000 0 [some (.ref 68), some (.int (jI k)), none] [] _ _
  have hn0 := (ok.a (ax_69 nr_1)).1
  have hn1 := (ok.a (ax_69 nr_1)).2
  refine w_step rfl ?_
  refine w_iload rfl ?_
  refine w_push kc_0 ?_
  refine w_push kc_2 ?_
  refine w_callS3I rfl (c_X9_in ok (by omega) (by omega) (by omega) (by omega) (by omega) (by omega)) ?_
  rintro z1 t1 ⟨rfl, hp1_0⟩
  rcases hp1_0 with ⟨rfl, hp1_0⟩ | ⟨rfl, hp1_0⟩
  · skip
    refine w_ine (by omega) (fun h => absurd h (by omega)) (fun _ => ?_)
    refine w_push kc_m1000000001 ?_
    refine w_retI rfl ?_
    exact ⟨rfl, (by omega), (by omega)⟩
  refine w_ine (by omega) (fun _ => ?_) (fun h => absurd (by omega) h)
  refine w_step rfl ?_
  refine w_aload rfl ?_
  refine w_iload rfl ?_
  refine w_callV1I (oj_68 _).choose_spec rfl (c_X9_counts ok (by omega) (by omega)) ?_
  rintro z2 t2 ⟨rfl, hp2_0, hp2_1, hp2_2⟩
  refine w_istore (lv' := [some (.ref 68), some (.int (jI k)), some (.int (jI z2))]) rfl ?_
  refine w_iload rfl ?_
  refine w_ige (by omega) (fun h3 => ?_) (fun h3 => ?_)
  · skip
    refine w_step rfl ?_
    refine w_iload rfl ?_
    refine w_goto ?_
    refine w_step rfl ?_
    refine w_retI rfl ?_
    exact ⟨rfl, (by omega), (by omega)⟩
  refine w_push kc_m1000000005 ?_
  refine w_goto ?_
  refine w_step rfl ?_
  refine w_retI rfl ?_
  exact ⟨rfl, (by omega), (by omega)⟩
set_option maxRecDepth 100000 in
set_option maxHeartbeats 4000000 in
theorem c_X9_sheet {d : Nat} {t : TS} {k s n : Int}  (ok : OK t) (q0 : -2147483648 ≤ k) (q1 : k ≤ 2147483647) (q2 : -2147483648 ≤ s) (q3 : s ≤ 2147483647) (q4 : -2147483648 ≤ n) (q5 : n ≤ 2147483647) : CI (EX FU (d + 3)) 208 [.ref 68, .int (jI k), .int (jI s), .int (jI n)] (mk t) (fun z t' => OK t' ∧ Fr [(83, 100), (84, 100), (85, 100)] t t' ∧ (((¬ (0 ≤ k ∧ k ≤ 3 ∧ -1 ≤ s ∧ s ≤ 1)) ∧ z = (-1000000001) ∧ t' = t) ∨ ((0 ≤ k ∧ k ≤ 3) ∧ (s = -1) ∧ z = 0 ∧ (∀ i, tA t' 83 i = if i = k.toNat then s else tA t 83 i) ∧ (∀ i, tA t' 84 i = if i = k.toNat then 0 else tA t 84 i) ∧ (∀ i : Nat, tA t' 85 i = if 24 * k ≤ (i : Int) ∧ (i : Int) < 24 * k + 24 then 0 else tA t 85 i)) ∨ ((0 ≤ k ∧ k ≤ 3) ∧ (0 ≤ s ∧ s ≤ 1) ∧ (24 < n) ∧ z = (-1000000001) ∧ t' = t) ∨ ((0 ≤ k ∧ k ≤ 3) ∧ (0 ≤ s ∧ s ≤ 1) ∧ (n < 0) ∧ z = (-1000000014) ∧ t' = t) ∨ ((0 ≤ k ∧ k ≤ 3) ∧ (0 ≤ s ∧ s ≤ 1) ∧ (0 ≤ n ∧ n ≤ 24) ∧ z = n ∧ (∀ i, tA t' 83 i = if i = k.toNat then s else tA t 83 i) ∧ (∀ i, tA t' 84 i = if i = k.toNat then n else tA t 84 i) ∧ (∀ i : Nat, tA t' 85 i = if 24 * k ≤ (i : Int) ∧ (i : Int) < 24 * k + 24 then 0 else tA t 85 i)))) := by
  refine CI_ent (d := d + 2) (Bk := bX9_sheet) (nL := 5) rfl rfl rfl (Nat.le_of_ble_eq_true rfl) ?_
  show Rn _ 1000000 0 [some (.ref 68), some (.int (jI k)), some (.int (jI s)), some (.int (jI n)), none] [] _ _
  have fr : Fr [(83, 100), (84, 100), (85, 100)] t t := Fr.rf _ _
  have hn0 := (ok.a (ax_69 nr_1)).1
  have hn1 := (ok.a (ax_69 nr_1)).2
  refine w_step rfl ?_
  refine w_iload rfl ?_
  refine w_callS1I rfl (c_X9_isSheet ok (by omega) (by omega)) ?_
  rintro z1 t1 ⟨rfl, hp1_0⟩
  rcases hp1_0 with ⟨rfl, hp1_0⟩ | ⟨rfl, hp1_0⟩
  · skip
    refine w_ieq (by omega) (fun _ => ?_) (fun h => absurd (by omega) h)
    refine w_step rfl ?_
    refine w_push kc_m1000000001 ?_
    refine w_retI rfl ?_
    exact ⟨ok, fr, (by first | (exact Or.inl ⟨by omega, by first | omega | (subst_vars; rfl), rfl⟩) | (exact Or.inr (Or.inl ⟨by omega, by omega, by first | omega | (have h9 := i6_2 84 k.toNat (by decide); rw [w2, tA_uA, if_pos ⟨rfl, rfl⟩] at h9; omega), by intro i; rw [i6_2 83 i (by decide), w2, tA_uA, if_neg (by omega), w1, tA_uA]; simp, by intro i; rw [i6_2 84 i (by decide), w2, tA_uA, w1, tA_uA]; simp, by intro i; rw [i6_3 i, show m = 24 by omega]⟩)) | (exact Or.inr (Or.inr (Or.inl ⟨by omega, by omega, by omega, by first | omega | (subst_vars; rfl), rfl⟩))) | (exact Or.inr (Or.inr (Or.inr (Or.inl ⟨by omega, by omega, by omega, by first | omega | (subst_vars; rfl), rfl⟩)))) | (exact Or.inr (Or.inr (Or.inr (Or.inr (⟨by omega, by omega, by omega, by first | omega | (have h9 := i6_2 84 k.toNat (by decide); rw [w2, tA_uA, if_pos ⟨rfl, rfl⟩] at h9; omega), by intro i; rw [i6_2 83 i (by decide), w2, tA_uA, if_neg (by omega), w1, tA_uA]; simp, by intro i; rw [i6_2 84 i (by decide), w2, tA_uA, w1, tA_uA]; simp, by intro i; rw [i6_3 i, show m = 24 by omega]⟩))))))⟩
  refine w_ieq (by omega) (fun h => absurd h (by omega)) (fun _ => ?_)
  refine w_iload rfl ?_
  refine w_push kc_m1 ?_
  refine w_push kc_1 ?_
  refine w_callS3I rfl (c_X9_in ok (by omega) (by omega) (by omega) (by omega) (by omega) (by omega)) ?_
  rintro z2 t2 ⟨rfl, hp2_0⟩
  rcases hp2_0 with ⟨rfl, hp2_0⟩ | ⟨rfl, hp2_0⟩
  · skip
    refine w_ieq (by omega) (fun _ => ?_) (fun h => absurd (by omega) h)
    refine w_step rfl ?_
    refine w_push kc_m1000000001 ?_
    refine w_retI rfl ?_
    exact ⟨ok, fr, (by first | (exact Or.inl ⟨by omega, by first | omega | (subst_vars; rfl), rfl⟩) | (exact Or.inr (Or.inl ⟨by omega, by omega, by first | omega | (have h9 := i6_2 84 k.toNat (by decide); rw [w2, tA_uA, if_pos ⟨rfl, rfl⟩] at h9; omega), by intro i; rw [i6_2 83 i (by decide), w2, tA_uA, if_neg (by omega), w1, tA_uA]; simp, by intro i; rw [i6_2 84 i (by decide), w2, tA_uA, w1, tA_uA]; simp, by intro i; rw [i6_3 i, show m = 24 by omega]⟩)) | (exact Or.inr (Or.inr (Or.inl ⟨by omega, by omega, by omega, by first | omega | (subst_vars; rfl), rfl⟩))) | (exact Or.inr (Or.inr (Or.inr (Or.inl ⟨by omega, by omega, by omega, by first | omega | (subst_vars; rfl), rfl⟩)))) | (exact Or.inr (Or.inr (Or.inr (Or.inr (⟨by omega, by omega, by omega, by first | omega | (have h9 := i6_2 84 k.toNat (by decide); rw [w2, tA_uA, if_pos ⟨rfl, rfl⟩] at h9; omega), by intro i; rw [i6_2 83 i (by decide), w2, tA_uA, if_neg (by omega), w1, tA_uA]; simp, by intro i; rw [i6_2 84 i (by decide), w2, tA_uA, w1, tA_uA]; simp, by intro i; rw [i6_3 i, show m = 24 by omega]⟩))))))⟩
  refine w_ieq (by omega) (fun h => absurd h (by omega)) (fun _ => ?_)
  refine w_iload rfl ?_
  refine w_ilt (by omega) (fun h3 => ?_) (fun h3 => ?_)
  · skip
    refine w_step rfl ?_
    refine w_iload rfl ?_
    refine w_ilt (by omega) (fun _ => ?_) (fun h => absurd (by omega) h)
    refine w_step rfl ?_
    refine w_aload rfl ?_
    refine w_getR (g_68_26 _) ?_
    refine w_iload rfl ?_
    refine w_iload rfl ?_
    refine w_iast (i := (k).toNat) (ai_83 _) rfl (by omega) (by omega) (ae_83 _) ok (by omega) (fun t4 ht4 ok4 => ?_)
    have fr4 := fr.uA ht4 (by simp)
    have w1 := ht4
    refine w_aload rfl ?_
    refine w_getR (g_68_27 _) ?_
    refine w_iload rfl ?_
    refine w_iload rfl ?_
    refine w_ige (by omega) (fun h => absurd h (by omega)) (fun _ => ?_)
    refine w_push kc_0 ?_
    refine w_goto ?_
    refine w_step rfl ?_
    refine w_iast (i := (k).toNat) (ai_84 _) rfl (by omega) (by omega) (ae_84 _) ok4 (by omega) (fun t5 ht5 ok5 => ?_)
    have fr5 := fr4.uA ht5 (by simp)
    have w2 := ht5
    refine w_push kc_0 ?_
    refine w_istore (lv' := [some (.ref 68), some (.int (jI k)), some (.int (jI s)), some (.int (jI n)), some (.int (jI 0))]) rfl ?_
    refine w_goto ?_
    have key6 : ∀ (n6 M6 : Nat) (m : Int) (t6 : TS), OK t6 → Fr [(83, 100), (84, 100), (85, 100)] t t6 → (0 ≤ m) → (m ≤ 24) → (∀ c i, ¬ c = 85 → tA t6 c i = tA t5 c i) → (∀ i : Nat, tA t6 85 i = if 24 * k ≤ (i : Int) ∧ (i : Int) < 24 * k + m then 0 else tA t 85 i) → 24 - m < (n6 : Int) → 60 * n6 + (1000) ≤ M6 → Rn (bX9_sheet (EX FU (d + 2))) M6 6 [some (.ref 68), some (.int (jI k)), some (.int (jI s)), some (.int (jI n)), some (.int (jI m))] [] (mk t6) (PI (fun z t' => OK t' ∧ Fr [(83, 100), (84, 100), (85, 100)] t t' ∧ (((¬ (0 ≤ k ∧ k ≤ 3 ∧ -1 ≤ s ∧ s ≤ 1)) ∧ z = (-1000000001) ∧ t' = t) ∨ ((0 ≤ k ∧ k ≤ 3) ∧ (s = -1) ∧ z = 0 ∧ (∀ i, tA t' 83 i = if i = k.toNat then s else tA t 83 i) ∧ (∀ i, tA t' 84 i = if i = k.toNat then 0 else tA t 84 i) ∧ (∀ i : Nat, tA t' 85 i = if 24 * k ≤ (i : Int) ∧ (i : Int) < 24 * k + 24 then 0 else tA t 85 i)) ∨ ((0 ≤ k ∧ k ≤ 3) ∧ (0 ≤ s ∧ s ≤ 1) ∧ (24 < n) ∧ z = (-1000000001) ∧ t' = t) ∨ ((0 ≤ k ∧ k ≤ 3) ∧ (0 ≤ s ∧ s ≤ 1) ∧ (n < 0) ∧ z = (-1000000014) ∧ t' = t) ∨ ((0 ≤ k ∧ k ≤ 3) ∧ (0 ≤ s ∧ s ≤ 1) ∧ (0 ≤ n ∧ n ≤ 24) ∧ z = n ∧ (∀ i, tA t' 83 i = if i = k.toNat then s else tA t 83 i) ∧ (∀ i, tA t' 84 i = if i = k.toNat then n else tA t 84 i) ∧ (∀ i : Nat, tA t' 85 i = if 24 * k ≤ (i : Int) ∧ (i : Int) < 24 * k + 24 then 0 else tA t 85 i))))) := by
      intro n6
      induction n6 with
      | zero => intro M6 m t6 ok6 fr6 i6_0 i6_1 i6_2 i6_3 v6 f6; exfalso; omega
      | succ n6 ih6 =>
        intro M6 m t6 ok6 fr6 i6_0 i6_1 i6_2 i6_3 v6 f6
        obtain ⟨M6, rfl⟩ : ∃ m, M6 = m + 60 := ⟨M6 - 60, by omega⟩
        refine w_step rfl ?_
        refine w_iload rfl ?_
        refine w_push kc_24 ?_
        refine w_cge (by omega) (fun h7 => ?_) (fun h7 => ?_)
        · skip
          refine w_step rfl ?_
          refine w_aload rfl ?_
          refine w_getR (g_68_27 _) ?_
          refine w_iload rfl ?_
          refine w_iald (i := (k).toNat) (ai_84 _) (by omega) (by omega) (ae_84 _) ok6 (fun z8 hz8 hl8 hh8 => ?_)
          refine w_retI rfl ?_
          exact ⟨ok6, fr6, (by first | (exact Or.inl ⟨by omega, by first | omega | (subst_vars; rfl), rfl⟩) | (exact Or.inr (Or.inl ⟨by omega, by omega, by first | omega | (have h9 := i6_2 84 k.toNat (by decide); rw [w2, tA_uA, if_pos ⟨rfl, rfl⟩] at h9; omega), by intro i; rw [i6_2 83 i (by decide), w2, tA_uA, if_neg (by omega), w1, tA_uA]; simp, by intro i; rw [i6_2 84 i (by decide), w2, tA_uA, w1, tA_uA]; simp, by intro i; rw [i6_3 i, show m = 24 by omega]⟩)) | (exact Or.inr (Or.inr (Or.inl ⟨by omega, by omega, by omega, by first | omega | (subst_vars; rfl), rfl⟩))) | (exact Or.inr (Or.inr (Or.inr (Or.inl ⟨by omega, by omega, by omega, by first | omega | (subst_vars; rfl), rfl⟩)))) | (exact Or.inr (Or.inr (Or.inr (Or.inr (⟨by omega, by omega, by omega, by first | omega | (have h9 := i6_2 84 k.toNat (by decide); rw [w2, tA_uA, if_pos ⟨rfl, rfl⟩] at h9; omega), by intro i; rw [i6_2 83 i (by decide), w2, tA_uA, if_neg (by omega), w1, tA_uA]; simp, by intro i; rw [i6_2 84 i (by decide), w2, tA_uA, w1, tA_uA]; simp, by intro i; rw [i6_3 i, show m = 24 by omega]⟩))))))⟩
        refine w_aload rfl ?_
        refine w_getR (g_68_28 _) ?_
        refine w_push kc_24 ?_
        refine w_iload rfl ?_
        refine w_mul ?_
        refine w_iload rfl ?_
        refine w_add ?_
        refine w_push kc_0 ?_
        refine w_iast (i := (((24 * k) + m)).toNat) (ai_85 _) rfl (by omega) (by omega) (ae_85 _) ok6 (by omega) (fun t9 ht9 ok9 => ?_)
        have fr9 := fr6.uA ht9 (by simp)
        have w3 := ht9
        refine w_iinc (lv' := [some (.ref 68), some (.int (jI k)), some (.int (jI s)), some (.int (jI n)), some (.int (jI (m + 1)))]) kc_1 rfl rfl ?_
        refine w_goto ?_
        exact ih6 _ (m + 1) t9 ok9 fr9 (by omega) (by omega) (by intro c i hc; rw [w3, tA_uA, if_neg (fun q => hc q.1)]; exact i6_2 c i hc) (deal_step (F := fun _ => 0) (n := 24 * k) (i := m) (by omega) i6_0 rfl i6_3 (by intro i; rw [w3, tA_uA]; simp) rfl) (by omega) (by omega)
    exact key6 25 _ 0 t5 ok5 fr5 (by omega) (by omega) (fun _ _ _ => rfl) (by intro i; rw [if_neg (by omega), w2, tA_uA, if_neg (by omega), w1, tA_uA, if_neg (by omega)]) (by omega) (by omega)
  refine w_iload rfl ?_
  refine w_push kc_24 ?_
  refine w_cle (by omega) (fun h10 => ?_) (fun h10 => ?_)
  · skip
    refine w_step rfl ?_
    refine w_iload rfl ?_
    refine w_ilt (by omega) (fun h => absurd h (by omega)) (fun _ => ?_)
    refine w_iload rfl ?_
    refine w_ige (by omega) (fun h11 => ?_) (fun h11 => ?_)
    · skip
      refine w_step rfl ?_
      refine w_aload rfl ?_
      refine w_getR (g_68_26 _) ?_
      refine w_iload rfl ?_
      refine w_iload rfl ?_
      refine w_iast (i := (k).toNat) (ai_83 _) rfl (by omega) (by omega) (ae_83 _) ok (by omega) (fun t12 ht12 ok12 => ?_)
      have fr12 := fr.uA ht12 (by simp)
      have w1 := ht12
      refine w_aload rfl ?_
      refine w_getR (g_68_27 _) ?_
      refine w_iload rfl ?_
      refine w_iload rfl ?_
      refine w_ige (by omega) (fun _ => ?_) (fun h => absurd (by omega) h)
      refine w_step rfl ?_
      refine w_iload rfl ?_
      refine w_goto ?_
      refine w_step rfl ?_
      refine w_iast (i := (k).toNat) (ai_84 _) rfl (by omega) (by omega) (ae_84 _) ok12 (by omega) (fun t13 ht13 ok13 => ?_)
      have fr13 := fr12.uA ht13 (by simp)
      have w2 := ht13
      refine w_push kc_0 ?_
      refine w_istore (lv' := [some (.ref 68), some (.int (jI k)), some (.int (jI s)), some (.int (jI n)), some (.int (jI 0))]) rfl ?_
      refine w_goto ?_
      have key6 : ∀ (n6 M6 : Nat) (m : Int) (t14 : TS), OK t14 → Fr [(83, 100), (84, 100), (85, 100)] t t14 → (0 ≤ m) → (m ≤ 24) → (∀ c i, ¬ c = 85 → tA t14 c i = tA t13 c i) → (∀ i : Nat, tA t14 85 i = if 24 * k ≤ (i : Int) ∧ (i : Int) < 24 * k + m then 0 else tA t 85 i) → 24 - m < (n6 : Int) → 60 * n6 + (1000) ≤ M6 → Rn (bX9_sheet (EX FU (d + 2))) M6 6 [some (.ref 68), some (.int (jI k)), some (.int (jI s)), some (.int (jI n)), some (.int (jI m))] [] (mk t14) (PI (fun z t' => OK t' ∧ Fr [(83, 100), (84, 100), (85, 100)] t t' ∧ (((¬ (0 ≤ k ∧ k ≤ 3 ∧ -1 ≤ s ∧ s ≤ 1)) ∧ z = (-1000000001) ∧ t' = t) ∨ ((0 ≤ k ∧ k ≤ 3) ∧ (s = -1) ∧ z = 0 ∧ (∀ i, tA t' 83 i = if i = k.toNat then s else tA t 83 i) ∧ (∀ i, tA t' 84 i = if i = k.toNat then 0 else tA t 84 i) ∧ (∀ i : Nat, tA t' 85 i = if 24 * k ≤ (i : Int) ∧ (i : Int) < 24 * k + 24 then 0 else tA t 85 i)) ∨ ((0 ≤ k ∧ k ≤ 3) ∧ (0 ≤ s ∧ s ≤ 1) ∧ (24 < n) ∧ z = (-1000000001) ∧ t' = t) ∨ ((0 ≤ k ∧ k ≤ 3) ∧ (0 ≤ s ∧ s ≤ 1) ∧ (n < 0) ∧ z = (-1000000014) ∧ t' = t) ∨ ((0 ≤ k ∧ k ≤ 3) ∧ (0 ≤ s ∧ s ≤ 1) ∧ (0 ≤ n ∧ n ≤ 24) ∧ z = n ∧ (∀ i, tA t' 83 i = if i = k.toNat then s else tA t 83 i) ∧ (∀ i, tA t' 84 i = if i = k.toNat then n else tA t 84 i) ∧ (∀ i : Nat, tA t' 85 i = if 24 * k ≤ (i : Int) ∧ (i : Int) < 24 * k + 24 then 0 else tA t 85 i))))) := by
        intro n6
        induction n6 with
        | zero => intro M6 m t14 ok14 fr14 i6_0 i6_1 i6_2 i6_3 v6 f6; exfalso; omega
        | succ n6 ih6 =>
          intro M6 m t14 ok14 fr14 i6_0 i6_1 i6_2 i6_3 v6 f6
          obtain ⟨M6, rfl⟩ : ∃ m, M6 = m + 60 := ⟨M6 - 60, by omega⟩
          refine w_step rfl ?_
          refine w_iload rfl ?_
          refine w_push kc_24 ?_
          refine w_cge (by omega) (fun h15 => ?_) (fun h15 => ?_)
          · skip
            refine w_step rfl ?_
            refine w_aload rfl ?_
            refine w_getR (g_68_27 _) ?_
            refine w_iload rfl ?_
            refine w_iald (i := (k).toNat) (ai_84 _) (by omega) (by omega) (ae_84 _) ok14 (fun z16 hz16 hl16 hh16 => ?_)
            refine w_retI rfl ?_
            exact ⟨ok14, fr14, (by first | (exact Or.inl ⟨by omega, by first | omega | (subst_vars; rfl), rfl⟩) | (exact Or.inr (Or.inl ⟨by omega, by omega, by first | omega | (have h9 := i6_2 84 k.toNat (by decide); rw [w2, tA_uA, if_pos ⟨rfl, rfl⟩] at h9; omega), by intro i; rw [i6_2 83 i (by decide), w2, tA_uA, if_neg (by omega), w1, tA_uA]; simp, by intro i; rw [i6_2 84 i (by decide), w2, tA_uA, w1, tA_uA]; simp, by intro i; rw [i6_3 i, show m = 24 by omega]⟩)) | (exact Or.inr (Or.inr (Or.inl ⟨by omega, by omega, by omega, by first | omega | (subst_vars; rfl), rfl⟩))) | (exact Or.inr (Or.inr (Or.inr (Or.inl ⟨by omega, by omega, by omega, by first | omega | (subst_vars; rfl), rfl⟩)))) | (exact Or.inr (Or.inr (Or.inr (Or.inr (⟨by omega, by omega, by omega, by first | omega | (have h9 := i6_2 84 k.toNat (by decide); rw [w2, tA_uA, if_pos ⟨rfl, rfl⟩] at h9; omega), by intro i; rw [i6_2 83 i (by decide), w2, tA_uA, if_neg (by omega), w1, tA_uA]; simp, by intro i; rw [i6_2 84 i (by decide), w2, tA_uA, w1, tA_uA]; simp, by intro i; rw [i6_3 i, show m = 24 by omega]⟩))))))⟩
          refine w_aload rfl ?_
          refine w_getR (g_68_28 _) ?_
          refine w_push kc_24 ?_
          refine w_iload rfl ?_
          refine w_mul ?_
          refine w_iload rfl ?_
          refine w_add ?_
          refine w_push kc_0 ?_
          refine w_iast (i := (((24 * k) + m)).toNat) (ai_85 _) rfl (by omega) (by omega) (ae_85 _) ok14 (by omega) (fun t17 ht17 ok17 => ?_)
          have fr17 := fr14.uA ht17 (by simp)
          have w3 := ht17
          refine w_iinc (lv' := [some (.ref 68), some (.int (jI k)), some (.int (jI s)), some (.int (jI n)), some (.int (jI (m + 1)))]) kc_1 rfl rfl ?_
          refine w_goto ?_
          exact ih6 _ (m + 1) t17 ok17 fr17 (by omega) (by omega) (by intro c i hc; rw [w3, tA_uA, if_neg (fun q => hc q.1)]; exact i6_2 c i hc) (deal_step (F := fun _ => 0) (n := 24 * k) (i := m) (by omega) i6_0 rfl i6_3 (by intro i; rw [w3, tA_uA]; simp) rfl) (by omega) (by omega)
      exact key6 25 _ 0 t13 ok13 fr13 (by omega) (by omega) (fun _ _ _ => rfl) (by intro i; rw [if_neg (by omega), w2, tA_uA, if_neg (by omega), w1, tA_uA, if_neg (by omega)]) (by omega) (by omega)
    refine w_push kc_m1000000014 ?_
    refine w_retI rfl ?_
    exact ⟨ok, fr, (by first | (exact Or.inl ⟨by omega, by first | omega | (subst_vars; rfl), rfl⟩) | (exact Or.inr (Or.inl ⟨by omega, by omega, by first | omega | (have h9 := i6_2 84 k.toNat (by decide); rw [w2, tA_uA, if_pos ⟨rfl, rfl⟩] at h9; omega), by intro i; rw [i6_2 83 i (by decide), w2, tA_uA, if_neg (by omega), w1, tA_uA]; simp, by intro i; rw [i6_2 84 i (by decide), w2, tA_uA, w1, tA_uA]; simp, by intro i; rw [i6_3 i, show m = 24 by omega]⟩)) | (exact Or.inr (Or.inr (Or.inl ⟨by omega, by omega, by omega, by first | omega | (subst_vars; rfl), rfl⟩))) | (exact Or.inr (Or.inr (Or.inr (Or.inl ⟨by omega, by omega, by omega, by first | omega | (subst_vars; rfl), rfl⟩)))) | (exact Or.inr (Or.inr (Or.inr (Or.inr (⟨by omega, by omega, by omega, by first | omega | (have h9 := i6_2 84 k.toNat (by decide); rw [w2, tA_uA, if_pos ⟨rfl, rfl⟩] at h9; omega), by intro i; rw [i6_2 83 i (by decide), w2, tA_uA, if_neg (by omega), w1, tA_uA]; simp, by intro i; rw [i6_2 84 i (by decide), w2, tA_uA, w1, tA_uA]; simp, by intro i; rw [i6_3 i, show m = 24 by omega]⟩))))))⟩
  refine w_goto ?_
  refine w_step rfl ?_
  refine w_push kc_m1000000001 ?_
  refine w_retI rfl ?_
  exact ⟨ok, fr, (by first | (exact Or.inl ⟨by omega, by first | omega | (subst_vars; rfl), rfl⟩) | (exact Or.inr (Or.inl ⟨by omega, by omega, by first | omega | (have h9 := i6_2 84 k.toNat (by decide); rw [w2, tA_uA, if_pos ⟨rfl, rfl⟩] at h9; omega), by intro i; rw [i6_2 83 i (by decide), w2, tA_uA, if_neg (by omega), w1, tA_uA]; simp, by intro i; rw [i6_2 84 i (by decide), w2, tA_uA, w1, tA_uA]; simp, by intro i; rw [i6_3 i, show m = 24 by omega]⟩)) | (exact Or.inr (Or.inr (Or.inl ⟨by omega, by omega, by omega, by first | omega | (subst_vars; rfl), rfl⟩))) | (exact Or.inr (Or.inr (Or.inr (Or.inl ⟨by omega, by omega, by omega, by first | omega | (subst_vars; rfl), rfl⟩)))) | (exact Or.inr (Or.inr (Or.inr (Or.inr (⟨by omega, by omega, by omega, by first | omega | (have h9 := i6_2 84 k.toNat (by decide); rw [w2, tA_uA, if_pos ⟨rfl, rfl⟩] at h9; omega), by intro i; rw [i6_2 83 i (by decide), w2, tA_uA, if_neg (by omega), w1, tA_uA]; simp, by intro i; rw [i6_2 84 i (by decide), w2, tA_uA, w1, tA_uA]; simp, by intro i; rw [i6_3 i, show m = 24 by omega]⟩))))))⟩
set_option maxRecDepth 100000 in
set_option maxHeartbeats 4000000 in
theorem c_X9_mark {d : Nat} {t : TS} {k p v : Int}  (ok : OK t) (q0 : -2147483648 ≤ k) (q1 : k ≤ 2147483647) (q2 : -2147483648 ≤ p) (q3 : p ≤ 2147483647) (q4 : -2147483648 ≤ v) (q5 : v ≤ 2147483647) : CI (EX FU (d + 3)) 209 [.ref 68, .int (jI k), .int (jI p), .int (jI v)] (mk t) (fun z t' => OK t' ∧ Fr [(85, 100)] t t' ∧ (((¬ (0 ≤ k ∧ k ≤ 3)) ∧ z = (-1000000001) ∧ t' = t) ∨ ((0 ≤ k ∧ k ≤ 3) ∧ (tA t 83 k.toNat = -1) ∧ z = (-1000000011) ∧ t' = t) ∨ ((0 ≤ k ∧ k ≤ 3) ∧ (¬ tA t 83 k.toNat = -1) ∧ (¬ (0 ≤ p ∧ p ≤ tA t 84 k.toNat - 1)) ∧ z = (-1000000013) ∧ t' = t) ∨ ((0 ≤ k ∧ k ≤ 3) ∧ (tA t 83 k.toNat = 0) ∧ (0 ≤ p ∧ p ≤ tA t 84 k.toNat - 1) ∧ (v = (-1000000005)) ∧ z = (-1000000012) ∧ t' = t) ∨ ((0 ≤ k ∧ k ≤ 3) ∧ (tA t 83 k.toNat = 0) ∧ (0 ≤ p ∧ p ≤ tA t 84 k.toNat - 1) ∧ (¬ v = (-1000000005)) ∧ z = 1 ∧ (t' = uA t 85 (24 * k + p).toNat (shF v))) ∨ ((0 ≤ k ∧ k ≤ 3) ∧ (tA t 83 k.toNat = 1) ∧ (0 ≤ p ∧ p ≤ tA t 84 k.toNat - 1) ∧ (¬ v = (-1000000005)) ∧ (¬ (-99999 ≤ v ∧ v ≤ 99999)) ∧ z = (-1000000001) ∧ t' = t) ∨ ((0 ≤ k ∧ k ≤ 3) ∧ (tA t 83 k.toNat = 1) ∧ (0 ≤ p ∧ p ≤ tA t 84 k.toNat - 1) ∧ (v = (-1000000005) ∨ (-99999 ≤ v ∧ v ≤ 99999)) ∧ z = 1 ∧ (t' = uA t 85 (24 * k + p).toNat v)))) := by
  refine CI_ent (d := d + 2) (Bk := bX9_mark) (nL := 4) rfl rfl rfl (Nat.le_of_ble_eq_true rfl) ?_
  show Rn _ 1000000 0 [some (.ref 68), some (.int (jI k)), some (.int (jI p)), some (.int (jI v))] [] _ _
  have fr : Fr [(85, 100)] t t := Fr.rf _ _
  have hn0 := (ok.a (ax_69 nr_1)).1
  have hn1 := (ok.a (ax_69 nr_1)).2
  refine w_step rfl ?_
  refine w_iload rfl ?_
  refine w_callS1I rfl (c_X9_isSheet ok (by omega) (by omega)) ?_
  rintro z1 t1 ⟨rfl, hp1_0⟩
  rcases hp1_0 with ⟨rfl, hp1_0⟩ | ⟨rfl, hp1_0⟩
  · skip
    refine w_ine (by omega) (fun h => absurd h (by omega)) (fun _ => ?_)
    refine w_push kc_m1000000001 ?_
    refine w_retI rfl ?_
    exact ⟨ok, fr, (by first | (exact Or.inl ⟨by omega, by first | omega | (subst_vars; rfl), rfl⟩) | (exact Or.inr (Or.inl ⟨by omega, by omega, by first | omega | (subst_vars; rfl), rfl⟩)) | (exact Or.inr (Or.inr (Or.inl ⟨by omega, by omega, by omega, by first | omega | (subst_vars; rfl), rfl⟩))) | (exact Or.inr (Or.inr (Or.inr (Or.inl ⟨by omega, by omega, by omega, by omega, by first | omega | (subst_vars; rfl), rfl⟩)))) | (exact Or.inr (Or.inr (Or.inr (Or.inr (Or.inl ⟨by omega, by omega, by omega, by omega, by first | omega | (subst_vars; rfl), by subst_vars; rfl⟩))))) | (exact Or.inr (Or.inr (Or.inr (Or.inr (Or.inr (Or.inl ⟨by omega, by omega, by omega, by omega, by omega, by first | omega | (subst_vars; rfl), rfl⟩)))))) | (exact Or.inr (Or.inr (Or.inr (Or.inr (Or.inr (Or.inr (⟨by omega, by omega, by omega, by omega, by first | omega | (subst_vars; rfl), by subst_vars; rfl⟩))))))))⟩
  refine w_ine (by omega) (fun _ => ?_) (fun h => absurd (by omega) h)
  refine w_step rfl ?_
  refine w_aload rfl ?_
  refine w_getR (g_68_26 _) ?_
  refine w_iload rfl ?_
  refine w_iald (i := (k).toNat) (ai_83 _) (by omega) (by omega) (ae_83 _) ok (fun z2 hz2 hl2 hh2 => ?_)
  refine w_ige (by omega) (fun h3 => ?_) (fun h3 => ?_)
  · skip
    refine w_step rfl ?_
    refine w_iload rfl ?_
    refine w_push kc_0 ?_
    refine w_aload rfl ?_
    refine w_getR (g_68_27 _) ?_
    refine w_iload rfl ?_
    refine w_iald (i := (k).toNat) (ai_84 _) (by omega) (by omega) (ae_84 _) ok (fun z4 hz4 hl4 hh4 => ?_)
    refine w_push kc_1 ?_
    refine w_sub ?_
    refine w_callS3I rfl (c_X9_in ok (by omega) (by omega) (by omega) (by omega) (by omega) (by omega)) ?_
    rintro z5 t5 ⟨rfl, hp5_0⟩
    rcases hp5_0 with ⟨rfl, hp5_0⟩ | ⟨rfl, hp5_0⟩
    · skip
      refine w_ine (by omega) (fun h => absurd h (by omega)) (fun _ => ?_)
      refine w_push kc_m1000000013 ?_
      refine w_retI rfl ?_
      exact ⟨ok, fr, (by first | (exact Or.inl ⟨by omega, by first | omega | (subst_vars; rfl), rfl⟩) | (exact Or.inr (Or.inl ⟨by omega, by omega, by first | omega | (subst_vars; rfl), rfl⟩)) | (exact Or.inr (Or.inr (Or.inl ⟨by omega, by omega, by omega, by first | omega | (subst_vars; rfl), rfl⟩))) | (exact Or.inr (Or.inr (Or.inr (Or.inl ⟨by omega, by omega, by omega, by omega, by first | omega | (subst_vars; rfl), rfl⟩)))) | (exact Or.inr (Or.inr (Or.inr (Or.inr (Or.inl ⟨by omega, by omega, by omega, by omega, by first | omega | (subst_vars; rfl), by subst_vars; rfl⟩))))) | (exact Or.inr (Or.inr (Or.inr (Or.inr (Or.inr (Or.inl ⟨by omega, by omega, by omega, by omega, by omega, by first | omega | (subst_vars; rfl), rfl⟩)))))) | (exact Or.inr (Or.inr (Or.inr (Or.inr (Or.inr (Or.inr (⟨by omega, by omega, by omega, by omega, by first | omega | (subst_vars; rfl), by subst_vars; rfl⟩))))))))⟩
    refine w_ine (by omega) (fun _ => ?_) (fun h => absurd (by omega) h)
    refine w_step rfl ?_
    refine w_aload rfl ?_
    refine w_getR (g_68_26 _) ?_
    refine w_iload rfl ?_
    refine w_iald (i := (k).toNat) (ai_83 _) (by omega) (by omega) (ae_83 _) ok (fun z6 hz6 hl6 hh6 => ?_)
    refine w_ine (by omega) (fun h7 => ?_) (fun h7 => ?_)
    · skip
      refine w_step rfl ?_
      refine w_aload rfl ?_
      refine w_getR (g_68_26 _) ?_
      refine w_iload rfl ?_
      refine w_iald (i := (k).toNat) (ai_83 _) (by omega) (by omega) (ae_83 _) ok (fun z8 hz8 hl8 hh8 => ?_)
      refine w_push kc_1 ?_
      refine w_cne (by omega) (fun h9 => ?_) (fun h9 => ?_)
      · skip
        refine w_step rfl ?_
        refine w_aload rfl ?_
        refine w_getR (g_68_28 _) ?_
        refine w_push kc_24 ?_
        refine w_iload rfl ?_
        refine w_mul ?_
        refine w_iload rfl ?_
        refine w_add ?_
        refine w_aload rfl ?_
        refine w_getR (g_68_26 _) ?_
        refine w_iload rfl ?_
        refine w_iald (i := (k).toNat) (ai_83 _) (by omega) (by omega) (ae_83 _) ok (fun z10 hz10 hl10 hh10 => ?_)
        refine w_ine (by omega) (fun h11 => ?_) (fun h11 => ?_)
        · skip
          refine w_step rfl ?_
          refine w_iload rfl ?_
          refine w_goto ?_
          refine w_step rfl ?_
          refine w_iast (i := (((24 * k) + p)).toNat) (ai_85 _) rfl (by omega) (by omega) (ae_85 _) ok (by omega) (fun t12 ht12 ok12 => ?_)
          have fr12 := fr.uA ht12 (by simp)
          refine w_push kc_1 ?_
          refine w_retI rfl ?_
          exact ⟨ok12, fr12, (by first | (exact Or.inl ⟨by omega, by first | omega | (subst_vars; rfl), rfl⟩) | (exact Or.inr (Or.inl ⟨by omega, by omega, by first | omega | (subst_vars; rfl), rfl⟩)) | (exact Or.inr (Or.inr (Or.inl ⟨by omega, by omega, by omega, by first | omega | (subst_vars; rfl), rfl⟩))) | (exact Or.inr (Or.inr (Or.inr (Or.inl ⟨by omega, by omega, by omega, by omega, by first | omega | (subst_vars; rfl), rfl⟩)))) | (exact Or.inr (Or.inr (Or.inr (Or.inr (Or.inl ⟨by omega, by omega, by omega, by omega, by first | omega | (subst_vars; rfl), by subst_vars; rfl⟩))))) | (exact Or.inr (Or.inr (Or.inr (Or.inr (Or.inr (Or.inl ⟨by omega, by omega, by omega, by omega, by omega, by first | omega | (subst_vars; rfl), rfl⟩)))))) | (exact Or.inr (Or.inr (Or.inr (Or.inr (Or.inr (Or.inr (⟨by omega, by omega, by omega, by omega, by first | omega | (subst_vars; rfl), by subst_vars; rfl⟩))))))))⟩
        refine w_iload rfl ?_
        refine w_un (fun z13 hz13 hl13 hh13 => ?_)
        refine w_goto ?_
        refine w_step rfl ?_
        refine w_iast (i := (((24 * k) + p)).toNat) (ai_85 _) rfl (by omega) (by omega) (ae_85 _) ok (by omega) (fun t14 ht14 ok14 => ?_)
        have fr14 := fr.uA ht14 (by simp)
        refine w_push kc_1 ?_
        refine w_retI rfl ?_
        exact ⟨ok14, fr14, (by first | (exact Or.inl ⟨by omega, by first | omega | (subst_vars; rfl), rfl⟩) | (exact Or.inr (Or.inl ⟨by omega, by omega, by first | omega | (subst_vars; rfl), rfl⟩)) | (exact Or.inr (Or.inr (Or.inl ⟨by omega, by omega, by omega, by first | omega | (subst_vars; rfl), rfl⟩))) | (exact Or.inr (Or.inr (Or.inr (Or.inl ⟨by omega, by omega, by omega, by omega, by first | omega | (subst_vars; rfl), rfl⟩)))) | (exact Or.inr (Or.inr (Or.inr (Or.inr (Or.inl ⟨by omega, by omega, by omega, by omega, by first | omega | (subst_vars; rfl), by subst_vars; rfl⟩))))) | (exact Or.inr (Or.inr (Or.inr (Or.inr (Or.inr (Or.inl ⟨by omega, by omega, by omega, by omega, by omega, by first | omega | (subst_vars; rfl), rfl⟩)))))) | (exact Or.inr (Or.inr (Or.inr (Or.inr (Or.inr (Or.inr (⟨by omega, by omega, by omega, by omega, by first | omega | (subst_vars; rfl), by subst_vars; rfl⟩))))))))⟩
      refine w_iload rfl ?_
      refine w_push kc_m1000000005 ?_
      refine w_ceq (by omega) (fun h15 => ?_) (fun h15 => ?_)
      · skip
        refine w_step rfl ?_
        refine w_aload rfl ?_
        refine w_getR (g_68_28 _) ?_
        refine w_push kc_24 ?_
        refine w_iload rfl ?_
        refine w_mul ?_
        refine w_iload rfl ?_
        refine w_add ?_
        refine w_aload rfl ?_
        refine w_getR (g_68_26 _) ?_
        refine w_iload rfl ?_
        refine w_iald (i := (k).toNat) (ai_83 _) (by omega) (by omega) (ae_83 _) ok (fun z16 hz16 hl16 hh16 => ?_)
        refine w_ine (by omega) (fun h17 => ?_) (fun h17 => ?_)
        · skip
          refine w_step rfl ?_
          refine w_iload rfl ?_
          refine w_goto ?_
          refine w_step rfl ?_
          refine w_iast (i := (((24 * k) + p)).toNat) (ai_85 _) rfl (by omega) (by omega) (ae_85 _) ok (by omega) (fun t18 ht18 ok18 => ?_)
          have fr18 := fr.uA ht18 (by simp)
          refine w_push kc_1 ?_
          refine w_retI rfl ?_
          exact ⟨ok18, fr18, (by first | (exact Or.inl ⟨by omega, by first | omega | (subst_vars; rfl), rfl⟩) | (exact Or.inr (Or.inl ⟨by omega, by omega, by first | omega | (subst_vars; rfl), rfl⟩)) | (exact Or.inr (Or.inr (Or.inl ⟨by omega, by omega, by omega, by first | omega | (subst_vars; rfl), rfl⟩))) | (exact Or.inr (Or.inr (Or.inr (Or.inl ⟨by omega, by omega, by omega, by omega, by first | omega | (subst_vars; rfl), rfl⟩)))) | (exact Or.inr (Or.inr (Or.inr (Or.inr (Or.inl ⟨by omega, by omega, by omega, by omega, by first | omega | (subst_vars; rfl), by subst_vars; rfl⟩))))) | (exact Or.inr (Or.inr (Or.inr (Or.inr (Or.inr (Or.inl ⟨by omega, by omega, by omega, by omega, by omega, by first | omega | (subst_vars; rfl), rfl⟩)))))) | (exact Or.inr (Or.inr (Or.inr (Or.inr (Or.inr (Or.inr (⟨by omega, by omega, by omega, by omega, by first | omega | (subst_vars; rfl), by subst_vars; rfl⟩))))))))⟩
        refine w_iload rfl ?_
        refine w_un (fun z19 hz19 hl19 hh19 => ?_)
        refine w_goto ?_
        refine w_step rfl ?_
        refine w_iast (i := (((24 * k) + p)).toNat) (ai_85 _) rfl (by omega) (by omega) (ae_85 _) ok (by omega) (fun t20 ht20 ok20 => ?_)
        have fr20 := fr.uA ht20 (by simp)
        refine w_push kc_1 ?_
        refine w_retI rfl ?_
        exact ⟨ok20, fr20, (by first | (exact Or.inl ⟨by omega, by first | omega | (subst_vars; rfl), rfl⟩) | (exact Or.inr (Or.inl ⟨by omega, by omega, by first | omega | (subst_vars; rfl), rfl⟩)) | (exact Or.inr (Or.inr (Or.inl ⟨by omega, by omega, by omega, by first | omega | (subst_vars; rfl), rfl⟩))) | (exact Or.inr (Or.inr (Or.inr (Or.inl ⟨by omega, by omega, by omega, by omega, by first | omega | (subst_vars; rfl), rfl⟩)))) | (exact Or.inr (Or.inr (Or.inr (Or.inr (Or.inl ⟨by omega, by omega, by omega, by omega, by first | omega | (subst_vars; rfl), by subst_vars; rfl⟩))))) | (exact Or.inr (Or.inr (Or.inr (Or.inr (Or.inr (Or.inl ⟨by omega, by omega, by omega, by omega, by omega, by first | omega | (subst_vars; rfl), rfl⟩)))))) | (exact Or.inr (Or.inr (Or.inr (Or.inr (Or.inr (Or.inr (⟨by omega, by omega, by omega, by omega, by first | omega | (subst_vars; rfl), by subst_vars; rfl⟩))))))))⟩
      refine w_iload rfl ?_
      refine w_push kc_m99999 ?_
      refine w_push kc_99999 ?_
      refine w_callS3I rfl (c_X9_in ok (by omega) (by omega) (by omega) (by omega) (by omega) (by omega)) ?_
      rintro z21 t21 ⟨rfl, hp21_0⟩
      rcases hp21_0 with ⟨rfl, hp21_0⟩ | ⟨rfl, hp21_0⟩
      · skip
        refine w_ine (by omega) (fun h => absurd h (by omega)) (fun _ => ?_)
        refine w_push kc_m1000000001 ?_
        refine w_retI rfl ?_
        exact ⟨ok, fr, (by first | (exact Or.inl ⟨by omega, by first | omega | (subst_vars; rfl), rfl⟩) | (exact Or.inr (Or.inl ⟨by omega, by omega, by first | omega | (subst_vars; rfl), rfl⟩)) | (exact Or.inr (Or.inr (Or.inl ⟨by omega, by omega, by omega, by first | omega | (subst_vars; rfl), rfl⟩))) | (exact Or.inr (Or.inr (Or.inr (Or.inl ⟨by omega, by omega, by omega, by omega, by first | omega | (subst_vars; rfl), rfl⟩)))) | (exact Or.inr (Or.inr (Or.inr (Or.inr (Or.inl ⟨by omega, by omega, by omega, by omega, by first | omega | (subst_vars; rfl), by subst_vars; rfl⟩))))) | (exact Or.inr (Or.inr (Or.inr (Or.inr (Or.inr (Or.inl ⟨by omega, by omega, by omega, by omega, by omega, by first | omega | (subst_vars; rfl), rfl⟩)))))) | (exact Or.inr (Or.inr (Or.inr (Or.inr (Or.inr (Or.inr (⟨by omega, by omega, by omega, by omega, by first | omega | (subst_vars; rfl), by subst_vars; rfl⟩))))))))⟩
      refine w_ine (by omega) (fun _ => ?_) (fun h => absurd (by omega) h)
      refine w_step rfl ?_
      refine w_aload rfl ?_
      refine w_getR (g_68_28 _) ?_
      refine w_push kc_24 ?_
      refine w_iload rfl ?_
      refine w_mul ?_
      refine w_iload rfl ?_
      refine w_add ?_
      refine w_aload rfl ?_
      refine w_getR (g_68_26 _) ?_
      refine w_iload rfl ?_
      refine w_iald (i := (k).toNat) (ai_83 _) (by omega) (by omega) (ae_83 _) ok (fun z22 hz22 hl22 hh22 => ?_)
      refine w_ine (by omega) (fun h23 => ?_) (fun h23 => ?_)
      · skip
        refine w_step rfl ?_
        refine w_iload rfl ?_
        refine w_goto ?_
        refine w_step rfl ?_
        refine w_iast (i := (((24 * k) + p)).toNat) (ai_85 _) rfl (by omega) (by omega) (ae_85 _) ok (by omega) (fun t24 ht24 ok24 => ?_)
        have fr24 := fr.uA ht24 (by simp)
        refine w_push kc_1 ?_
        refine w_retI rfl ?_
        exact ⟨ok24, fr24, (by first | (exact Or.inl ⟨by omega, by first | omega | (subst_vars; rfl), rfl⟩) | (exact Or.inr (Or.inl ⟨by omega, by omega, by first | omega | (subst_vars; rfl), rfl⟩)) | (exact Or.inr (Or.inr (Or.inl ⟨by omega, by omega, by omega, by first | omega | (subst_vars; rfl), rfl⟩))) | (exact Or.inr (Or.inr (Or.inr (Or.inl ⟨by omega, by omega, by omega, by omega, by first | omega | (subst_vars; rfl), rfl⟩)))) | (exact Or.inr (Or.inr (Or.inr (Or.inr (Or.inl ⟨by omega, by omega, by omega, by omega, by first | omega | (subst_vars; rfl), by subst_vars; rfl⟩))))) | (exact Or.inr (Or.inr (Or.inr (Or.inr (Or.inr (Or.inl ⟨by omega, by omega, by omega, by omega, by omega, by first | omega | (subst_vars; rfl), rfl⟩)))))) | (exact Or.inr (Or.inr (Or.inr (Or.inr (Or.inr (Or.inr (⟨by omega, by omega, by omega, by omega, by first | omega | (subst_vars; rfl), by subst_vars; rfl⟩))))))))⟩
      refine w_iload rfl ?_
      refine w_un (fun z25 hz25 hl25 hh25 => ?_)
      refine w_goto ?_
      refine w_step rfl ?_
      refine w_iast (i := (((24 * k) + p)).toNat) (ai_85 _) rfl (by omega) (by omega) (ae_85 _) ok (by omega) (fun t26 ht26 ok26 => ?_)
      have fr26 := fr.uA ht26 (by simp)
      refine w_push kc_1 ?_
      refine w_retI rfl ?_
      exact ⟨ok26, fr26, (by first | (exact Or.inl ⟨by omega, by first | omega | (subst_vars; rfl), rfl⟩) | (exact Or.inr (Or.inl ⟨by omega, by omega, by first | omega | (subst_vars; rfl), rfl⟩)) | (exact Or.inr (Or.inr (Or.inl ⟨by omega, by omega, by omega, by first | omega | (subst_vars; rfl), rfl⟩))) | (exact Or.inr (Or.inr (Or.inr (Or.inl ⟨by omega, by omega, by omega, by omega, by first | omega | (subst_vars; rfl), rfl⟩)))) | (exact Or.inr (Or.inr (Or.inr (Or.inr (Or.inl ⟨by omega, by omega, by omega, by omega, by first | omega | (subst_vars; rfl), by subst_vars; rfl⟩))))) | (exact Or.inr (Or.inr (Or.inr (Or.inr (Or.inr (Or.inl ⟨by omega, by omega, by omega, by omega, by omega, by first | omega | (subst_vars; rfl), rfl⟩)))))) | (exact Or.inr (Or.inr (Or.inr (Or.inr (Or.inr (Or.inr (⟨by omega, by omega, by omega, by omega, by first | omega | (subst_vars; rfl), by subst_vars; rfl⟩))))))))⟩
    refine w_iload rfl ?_
    refine w_push kc_m1000000005 ?_
    refine w_cne (by omega) (fun h27 => ?_) (fun h27 => ?_)
    · skip
      refine w_step rfl ?_
      refine w_aload rfl ?_
      refine w_getR (g_68_26 _) ?_
      refine w_iload rfl ?_
      refine w_iald (i := (k).toNat) (ai_83 _) (by omega) (by omega) (ae_83 _) ok (fun z28 hz28 hl28 hh28 => ?_)
      refine w_push kc_1 ?_
      refine w_cne (by omega) (fun h29 => ?_) (fun h29 => ?_)
      · skip
        refine w_step rfl ?_
        refine w_aload rfl ?_
        refine w_getR (g_68_28 _) ?_
        refine w_push kc_24 ?_
        refine w_iload rfl ?_
        refine w_mul ?_
        refine w_iload rfl ?_
        refine w_add ?_
        refine w_aload rfl ?_
        refine w_getR (g_68_26 _) ?_
        refine w_iload rfl ?_
        refine w_iald (i := (k).toNat) (ai_83 _) (by omega) (by omega) (ae_83 _) ok (fun z30 hz30 hl30 hh30 => ?_)
        refine w_ine (by omega) (fun h31 => ?_) (fun h31 => ?_)
        · skip
          refine w_step rfl ?_
          refine w_iload rfl ?_
          refine w_goto ?_
          refine w_step rfl ?_
          refine w_iast (i := (((24 * k) + p)).toNat) (ai_85 _) rfl (by omega) (by omega) (ae_85 _) ok (by omega) (fun t32 ht32 ok32 => ?_)
          have fr32 := fr.uA ht32 (by simp)
          refine w_push kc_1 ?_
          refine w_retI rfl ?_
          exact ⟨ok32, fr32, (by first | (exact Or.inl ⟨by omega, by first | omega | (subst_vars; rfl), rfl⟩) | (exact Or.inr (Or.inl ⟨by omega, by omega, by first | omega | (subst_vars; rfl), rfl⟩)) | (exact Or.inr (Or.inr (Or.inl ⟨by omega, by omega, by omega, by first | omega | (subst_vars; rfl), rfl⟩))) | (exact Or.inr (Or.inr (Or.inr (Or.inl ⟨by omega, by omega, by omega, by omega, by first | omega | (subst_vars; rfl), rfl⟩)))) | (exact Or.inr (Or.inr (Or.inr (Or.inr (Or.inl ⟨by omega, by omega, by omega, by omega, by first | omega | (subst_vars; rfl), by subst_vars; rfl⟩))))) | (exact Or.inr (Or.inr (Or.inr (Or.inr (Or.inr (Or.inl ⟨by omega, by omega, by omega, by omega, by omega, by first | omega | (subst_vars; rfl), rfl⟩)))))) | (exact Or.inr (Or.inr (Or.inr (Or.inr (Or.inr (Or.inr (⟨by omega, by omega, by omega, by omega, by first | omega | (subst_vars; rfl), by subst_vars; rfl⟩))))))))⟩
        refine w_iload rfl ?_
        refine w_un (fun z33 hz33 hl33 hh33 => ?_)
        refine w_goto ?_
        refine w_step rfl ?_
        refine w_iast (i := (((24 * k) + p)).toNat) (ai_85 _) rfl (by omega) (by omega) (ae_85 _) ok (by omega) (fun t34 ht34 ok34 => ?_)
        have fr34 := fr.uA ht34 (by simp)
        refine w_push kc_1 ?_
        refine w_retI rfl ?_
        exact ⟨ok34, fr34, (by first | (exact Or.inl ⟨by omega, by first | omega | (subst_vars; rfl), rfl⟩) | (exact Or.inr (Or.inl ⟨by omega, by omega, by first | omega | (subst_vars; rfl), rfl⟩)) | (exact Or.inr (Or.inr (Or.inl ⟨by omega, by omega, by omega, by first | omega | (subst_vars; rfl), rfl⟩))) | (exact Or.inr (Or.inr (Or.inr (Or.inl ⟨by omega, by omega, by omega, by omega, by first | omega | (subst_vars; rfl), rfl⟩)))) | (exact Or.inr (Or.inr (Or.inr (Or.inr (Or.inl ⟨by omega, by omega, by omega, by omega, by first | omega | (subst_vars; rfl), by subst_vars; rfl⟩))))) | (exact Or.inr (Or.inr (Or.inr (Or.inr (Or.inr (Or.inl ⟨by omega, by omega, by omega, by omega, by omega, by first | omega | (subst_vars; rfl), rfl⟩)))))) | (exact Or.inr (Or.inr (Or.inr (Or.inr (Or.inr (Or.inr (⟨by omega, by omega, by omega, by omega, by first | omega | (subst_vars; rfl), by subst_vars; rfl⟩))))))))⟩
      refine w_iload rfl ?_
      refine w_push kc_m1000000005 ?_
      refine w_ceq (by omega) (fun h => absurd h (by omega)) (fun _ => ?_)
      refine w_iload rfl ?_
      refine w_push kc_m99999 ?_
      refine w_push kc_99999 ?_
      refine w_callS3I rfl (c_X9_in ok (by omega) (by omega) (by omega) (by omega) (by omega) (by omega)) ?_
      rintro z35 t35 ⟨rfl, hp35_0⟩
      rcases hp35_0 with ⟨rfl, hp35_0⟩ | ⟨rfl, hp35_0⟩
      · skip
        refine w_ine (by omega) (fun h => absurd h (by omega)) (fun _ => ?_)
        refine w_push kc_m1000000001 ?_
        refine w_retI rfl ?_
        exact ⟨ok, fr, (by first | (exact Or.inl ⟨by omega, by first | omega | (subst_vars; rfl), rfl⟩) | (exact Or.inr (Or.inl ⟨by omega, by omega, by first | omega | (subst_vars; rfl), rfl⟩)) | (exact Or.inr (Or.inr (Or.inl ⟨by omega, by omega, by omega, by first | omega | (subst_vars; rfl), rfl⟩))) | (exact Or.inr (Or.inr (Or.inr (Or.inl ⟨by omega, by omega, by omega, by omega, by first | omega | (subst_vars; rfl), rfl⟩)))) | (exact Or.inr (Or.inr (Or.inr (Or.inr (Or.inl ⟨by omega, by omega, by omega, by omega, by first | omega | (subst_vars; rfl), by subst_vars; rfl⟩))))) | (exact Or.inr (Or.inr (Or.inr (Or.inr (Or.inr (Or.inl ⟨by omega, by omega, by omega, by omega, by omega, by first | omega | (subst_vars; rfl), rfl⟩)))))) | (exact Or.inr (Or.inr (Or.inr (Or.inr (Or.inr (Or.inr (⟨by omega, by omega, by omega, by omega, by first | omega | (subst_vars; rfl), by subst_vars; rfl⟩))))))))⟩
      refine w_ine (by omega) (fun _ => ?_) (fun h => absurd (by omega) h)
      refine w_step rfl ?_
      refine w_aload rfl ?_
      refine w_getR (g_68_28 _) ?_
      refine w_push kc_24 ?_
      refine w_iload rfl ?_
      refine w_mul ?_
      refine w_iload rfl ?_
      refine w_add ?_
      refine w_aload rfl ?_
      refine w_getR (g_68_26 _) ?_
      refine w_iload rfl ?_
      refine w_iald (i := (k).toNat) (ai_83 _) (by omega) (by omega) (ae_83 _) ok (fun z36 hz36 hl36 hh36 => ?_)
      refine w_ine (by omega) (fun h37 => ?_) (fun h37 => ?_)
      · skip
        refine w_step rfl ?_
        refine w_iload rfl ?_
        refine w_goto ?_
        refine w_step rfl ?_
        refine w_iast (i := (((24 * k) + p)).toNat) (ai_85 _) rfl (by omega) (by omega) (ae_85 _) ok (by omega) (fun t38 ht38 ok38 => ?_)
        have fr38 := fr.uA ht38 (by simp)
        refine w_push kc_1 ?_
        refine w_retI rfl ?_
        exact ⟨ok38, fr38, (by first | (exact Or.inl ⟨by omega, by first | omega | (subst_vars; rfl), rfl⟩) | (exact Or.inr (Or.inl ⟨by omega, by omega, by first | omega | (subst_vars; rfl), rfl⟩)) | (exact Or.inr (Or.inr (Or.inl ⟨by omega, by omega, by omega, by first | omega | (subst_vars; rfl), rfl⟩))) | (exact Or.inr (Or.inr (Or.inr (Or.inl ⟨by omega, by omega, by omega, by omega, by first | omega | (subst_vars; rfl), rfl⟩)))) | (exact Or.inr (Or.inr (Or.inr (Or.inr (Or.inl ⟨by omega, by omega, by omega, by omega, by first | omega | (subst_vars; rfl), by subst_vars; rfl⟩))))) | (exact Or.inr (Or.inr (Or.inr (Or.inr (Or.inr (Or.inl ⟨by omega, by omega, by omega, by omega, by omega, by first | omega | (subst_vars; rfl), rfl⟩)))))) | (exact Or.inr (Or.inr (Or.inr (Or.inr (Or.inr (Or.inr (⟨by omega, by omega, by omega, by omega, by first | omega | (subst_vars; rfl), by subst_vars; rfl⟩))))))))⟩
      refine w_iload rfl ?_
      refine w_un (fun z39 hz39 hl39 hh39 => ?_)
      refine w_goto ?_
      refine w_step rfl ?_
      refine w_iast (i := (((24 * k) + p)).toNat) (ai_85 _) rfl (by omega) (by omega) (ae_85 _) ok (by omega) (fun t40 ht40 ok40 => ?_)
      have fr40 := fr.uA ht40 (by simp)
      refine w_push kc_1 ?_
      refine w_retI rfl ?_
      exact ⟨ok40, fr40, (by first | (exact Or.inl ⟨by omega, by first | omega | (subst_vars; rfl), rfl⟩) | (exact Or.inr (Or.inl ⟨by omega, by omega, by first | omega | (subst_vars; rfl), rfl⟩)) | (exact Or.inr (Or.inr (Or.inl ⟨by omega, by omega, by omega, by first | omega | (subst_vars; rfl), rfl⟩))) | (exact Or.inr (Or.inr (Or.inr (Or.inl ⟨by omega, by omega, by omega, by omega, by first | omega | (subst_vars; rfl), rfl⟩)))) | (exact Or.inr (Or.inr (Or.inr (Or.inr (Or.inl ⟨by omega, by omega, by omega, by omega, by first | omega | (subst_vars; rfl), by subst_vars; rfl⟩))))) | (exact Or.inr (Or.inr (Or.inr (Or.inr (Or.inr (Or.inl ⟨by omega, by omega, by omega, by omega, by omega, by first | omega | (subst_vars; rfl), rfl⟩)))))) | (exact Or.inr (Or.inr (Or.inr (Or.inr (Or.inr (Or.inr (⟨by omega, by omega, by omega, by omega, by first | omega | (subst_vars; rfl), by subst_vars; rfl⟩))))))))⟩
    refine w_push kc_m1000000012 ?_
    refine w_retI rfl ?_
    exact ⟨ok, fr, (by first | (exact Or.inl ⟨by omega, by first | omega | (subst_vars; rfl), rfl⟩) | (exact Or.inr (Or.inl ⟨by omega, by omega, by first | omega | (subst_vars; rfl), rfl⟩)) | (exact Or.inr (Or.inr (Or.inl ⟨by omega, by omega, by omega, by first | omega | (subst_vars; rfl), rfl⟩))) | (exact Or.inr (Or.inr (Or.inr (Or.inl ⟨by omega, by omega, by omega, by omega, by first | omega | (subst_vars; rfl), rfl⟩)))) | (exact Or.inr (Or.inr (Or.inr (Or.inr (Or.inl ⟨by omega, by omega, by omega, by omega, by first | omega | (subst_vars; rfl), by subst_vars; rfl⟩))))) | (exact Or.inr (Or.inr (Or.inr (Or.inr (Or.inr (Or.inl ⟨by omega, by omega, by omega, by omega, by omega, by first | omega | (subst_vars; rfl), rfl⟩)))))) | (exact Or.inr (Or.inr (Or.inr (Or.inr (Or.inr (Or.inr (⟨by omega, by omega, by omega, by omega, by first | omega | (subst_vars; rfl), by subst_vars; rfl⟩))))))))⟩
  refine w_push kc_m1000000011 ?_
  refine w_retI rfl ?_
  exact ⟨ok, fr, (by first | (exact Or.inl ⟨by omega, by first | omega | (subst_vars; rfl), rfl⟩) | (exact Or.inr (Or.inl ⟨by omega, by omega, by first | omega | (subst_vars; rfl), rfl⟩)) | (exact Or.inr (Or.inr (Or.inl ⟨by omega, by omega, by omega, by first | omega | (subst_vars; rfl), rfl⟩))) | (exact Or.inr (Or.inr (Or.inr (Or.inl ⟨by omega, by omega, by omega, by omega, by first | omega | (subst_vars; rfl), rfl⟩)))) | (exact Or.inr (Or.inr (Or.inr (Or.inr (Or.inl ⟨by omega, by omega, by omega, by omega, by first | omega | (subst_vars; rfl), by subst_vars; rfl⟩))))) | (exact Or.inr (Or.inr (Or.inr (Or.inr (Or.inr (Or.inl ⟨by omega, by omega, by omega, by omega, by omega, by first | omega | (subst_vars; rfl), rfl⟩)))))) | (exact Or.inr (Or.inr (Or.inr (Or.inr (Or.inr (Or.inr (⟨by omega, by omega, by omega, by omega, by first | omega | (subst_vars; rfl), by subst_vars; rfl⟩))))))))⟩
set_option maxRecDepth 100000 in
set_option maxHeartbeats 4000000 in
theorem c_X9_pour {d : Nat} {t : TS} {k : Int}  (ok : OK t) (q0 : -2147483648 ≤ k) (q1 : k ≤ 2147483647) : CI (EX FU (d + 3)) 210 [.ref 68, .int (jI k)] (mk t) (fun z t' => OK t' ∧ Fr [(69, 100)] t t' ∧ (((¬ (0 ≤ k ∧ k ≤ 3)) ∧ z = (-1000000001) ∧ t' = t) ∨ ((0 ≤ k ∧ k ≤ 3) ∧ (tA t 83 k.toNat = -1) ∧ z = (-1000000011) ∧ t' = t) ∨ ((0 ≤ k ∧ k ≤ 3) ∧ (¬ tA t 83 k.toNat = -1) ∧ z = prC (tA t 84 k.toNat) (fun m => tA t 85 (24 * k.toNat + m)) (fun m => tA t 69 (5 + m)) (tA t 84 k.toNat).toNat ∧ (∀ m : Nat, m < 24 → tA t' 69 (5 + m) = prF (tA t 84 k.toNat) (fun m => tA t 85 (24 * k.toNat + m)) (fun m => tA t 69 (5 + m)) m) ∧ (∀ i, (i < 5 ∨ 29 ≤ i) → tA t' 69 i = tA t 69 i)))) := by
  refine CI_ent (d := d + 2) (Bk := bX9_pour) (nL := 6) rfl rfl rfl (Nat.le_of_ble_eq_true rfl) ?_
  show Rn _ 1000000 0 [some (.ref 68), some (.int (jI k)), none, none, none, none] [] _ _
  have fr : Fr [(69, 100)] t t := Fr.rf _ _
  have hn0 := (ok.a (ax_69 nr_1)).1
  have hn1 := (ok.a (ax_69 nr_1)).2
  have h84 := ok.a (ae_84 k.toNat)
  refine w_step rfl ?_
  refine w_iload rfl ?_
  refine w_callS1I rfl (c_X9_isSheet ok (by omega) (by omega)) ?_
  rintro z1 t1 ⟨rfl, hp1_0⟩
  rcases hp1_0 with ⟨rfl, hp1_0⟩ | ⟨rfl, hp1_0⟩
  · skip
    refine w_ine (by omega) (fun h => absurd h (by omega)) (fun _ => ?_)
    refine w_push kc_m1000000001 ?_
    refine w_retI rfl ?_
    exact ⟨ok, fr, (by first | (exact Or.inl ⟨by omega, by first | omega | (subst_vars; rfl), rfl⟩) | (exact Or.inr (Or.inl ⟨by omega, by omega, by first | omega | (subst_vars; rfl), rfl⟩)) | (exact Or.inr (Or.inr (⟨by omega, by omega, by rw [i3_4, show c.toNat = (tA t 84 k.toNat).toNat by omega], by intro m hm; rw [i3_5 m]; exact pour_end (by omega), i3_6⟩))))⟩
  refine w_ine (by omega) (fun _ => ?_) (fun h => absurd (by omega) h)
  refine w_step rfl ?_
  refine w_aload rfl ?_
  refine w_getR (g_68_26 _) ?_
  refine w_iload rfl ?_
  refine w_iald (i := (k).toNat) (ai_83 _) (by omega) (by omega) (ae_83 _) ok (fun z2 hz2 hl2 hh2 => ?_)
  refine w_ige (by omega) (fun h3 => ?_) (fun h3 => ?_)
  · skip
    refine w_step rfl ?_
    refine w_push kc_0 ?_
    refine w_istore (lv' := [some (.ref 68), some (.int (jI k)), some (.int (jI 0)), none, none, none]) rfl ?_
    refine w_push kc_0 ?_
    refine w_istore (lv' := [some (.ref 68), some (.int (jI k)), some (.int (jI 0)), some (.int (jI 0)), none, none]) rfl ?_
    refine w_goto ?_
    have key3 : ∀ (n3 M3 : Nat) (acc : Int) (c : Int) (o4 : Option Int) (o5 : Option Int) (t4 : TS), OK t4 → Fr [(69, 100)] t t4 → (0 ≤ c) → (c ≤ 24) → (0 ≤ acc) → (acc ≤ c) → (acc = prC (tA t 84 k.toNat) (fun m => tA t 85 (24 * k.toNat + m)) (fun m => tA t 69 (5 + m)) c.toNat) → (∀ m : Nat, tA t4 69 (5 + m) = if (m : Int) < c then prF (tA t 84 k.toNat) (fun m => tA t 85 (24 * k.toNat + m)) (fun m => tA t 69 (5 + m)) m else tA t 69 (5 + m)) → (∀ i, (i < 5 ∨ 29 ≤ i) → tA t4 69 i = tA t 69 i) → (c ≤ tA t 84 k.toNat) → 24 - c < (n3 : Int) → 60 * n3 + (1000) ≤ M3 → Rn (bX9_pour (EX FU (d + 2))) M3 3 [some (.ref 68), some (.int (jI k)), some (.int (jI acc)), some (.int (jI c)), dv o4, dv o5] [] (mk t4) (PI (fun z t' => OK t' ∧ Fr [(69, 100)] t t' ∧ (((¬ (0 ≤ k ∧ k ≤ 3)) ∧ z = (-1000000001) ∧ t' = t) ∨ ((0 ≤ k ∧ k ≤ 3) ∧ (tA t 83 k.toNat = -1) ∧ z = (-1000000011) ∧ t' = t) ∨ ((0 ≤ k ∧ k ≤ 3) ∧ (¬ tA t 83 k.toNat = -1) ∧ z = prC (tA t 84 k.toNat) (fun m => tA t 85 (24 * k.toNat + m)) (fun m => tA t 69 (5 + m)) (tA t 84 k.toNat).toNat ∧ (∀ m : Nat, m < 24 → tA t' 69 (5 + m) = prF (tA t 84 k.toNat) (fun m => tA t 85 (24 * k.toNat + m)) (fun m => tA t 69 (5 + m)) m) ∧ (∀ i, (i < 5 ∨ 29 ≤ i) → tA t' 69 i = tA t 69 i))))) := by
      intro n3
      induction n3 with
      | zero => intro M3 acc c o4 o5 t4 ok4 fr4 i3_0 i3_1 i3_2 i3_3 i3_4 i3_5 i3_6 i3_7 v3 f3; exfalso; omega
      | succ n3 ih3 =>
        intro M3 acc c o4 o5 t4 ok4 fr4 i3_0 i3_1 i3_2 i3_3 i3_4 i3_5 i3_6 i3_7 v3 f3
        obtain ⟨M3, rfl⟩ : ∃ m, M3 = m + 60 := ⟨M3 - 60, by omega⟩
        have hS : ∀ m, tA t4 84 m = tA t 84 m := fun m => fr4.2.1 84 (by simp) m
        have hC : ∀ m, tA t4 85 m = tA t 85 m := fun m => fr4.2.1 85 (by simp) m
        have hSk := hS k.toNat
        refine w_step rfl ?_
        refine w_iload rfl ?_
        refine w_aload rfl ?_
        refine w_getR (g_68_27 _) ?_
        refine w_iload rfl ?_
        refine w_iald (i := (k).toNat) (ai_84 _) (by omega) (by omega) (ae_84 _) ok4 (fun z5 hz5 hl5 hh5 => ?_)
        refine w_cge (by omega) (fun h6 => ?_) (fun h6 => ?_)
        · skip
          refine w_step rfl ?_
          refine w_iload rfl ?_
          refine w_retI rfl ?_
          exact ⟨ok4, fr4, (by first | (exact Or.inl ⟨by omega, by first | omega | (subst_vars; rfl), rfl⟩) | (exact Or.inr (Or.inl ⟨by omega, by omega, by first | omega | (subst_vars; rfl), rfl⟩)) | (exact Or.inr (Or.inr (⟨by omega, by omega, by rw [i3_4, show c.toNat = (tA t 84 k.toNat).toNat by omega], by intro m hm; rw [i3_5 m]; exact pour_end (by omega), i3_6⟩))))⟩
        refine w_aload rfl ?_
        refine w_getR (g_68_28 _) ?_
        refine w_push kc_24 ?_
        refine w_iload rfl ?_
        refine w_mul ?_
        refine w_iload rfl ?_
        refine w_add ?_
        refine w_iald (i := (((24 * k) + c)).toNat) (ai_85 _) (by omega) (by omega) (ae_85 _) ok4 (fun z7 hz7 hl7 hh7 => ?_)
        have ev : z7 = tA t 85 (24 * k.toNat + c.toNat) := by
          rw [hz7, hC]
          congr 1
          omega
        refine w_istore (lv' := [some (.ref 68), some (.int (jI k)), some (.int (jI acc)), some (.int (jI c)), some (.int (jI z7)), dv o5]) rfl ?_
        refine w_iload rfl ?_
        refine w_push kc_m1000000005 ?_
        refine w_cne (by omega) (fun h8 => ?_) (fun h8 => ?_)
        · skip
          refine w_step rfl ?_
          refine w_iload rfl ?_
          refine w_push kc_0 ?_
          refine w_push kc_99 ?_
          refine w_callS3I rfl (c_X9_within ok4 (by omega) (by omega) (by omega) (by omega) (by omega) (by omega) (by omega)) ?_
          rintro z9 t9 ⟨rfl, hp9_0⟩
          refine w_goto ?_
          refine w_step rfl ?_
          refine w_istore (lv' := [some (.ref 68), some (.int (jI k)), some (.int (jI acc)), some (.int (jI c)), some (.int (jI z7)), some (.int (jI z9))]) rfl ?_
          refine w_iload rfl ?_
          refine w_aload rfl ?_
          refine w_push kc_5 ?_
          refine w_iload rfl ?_
          refine w_add ?_
          refine w_iload rfl ?_
          refine w_callV2I (oj_68 _).choose_spec rfl (c_X9_becomes ok4 (by omega) (by omega) ⟨_, _, nr_W (by omega), by omega, by omega⟩) ?_
          rintro z10 t10 ⟨ok10, fq10, hp10_0, hp10_1, hp10_2, hp10_3⟩
          have fr10 := fr4.then fq10 (by simp)
          have eold : z10 = tA t 69 (5 + c.toNat) := by
            rw [hp10_0, show (5 + c).toNat = 5 + c.toNat by omega, i3_5 c.toNat, if_neg (by omega)]
          have ew : ∀ m : Nat, tA t10 69 (5 + m) = if m = c.toNat then z9 else tA t4 69 (5 + m) := by
            intro m
            rw [hp10_1, tA_uA]
            by_cases h9 : m = c.toNat
            · rw [if_pos (by omega), if_pos h9]
            · rw [if_neg (by omega), if_neg h9]
          have eo2 : ∀ i, (i < 5 ∨ 29 ≤ i) → tA t10 69 i = tA t 69 i := fun i hi => by rw [hp10_1, tA_uA, if_neg (by omega)]; exact i3_6 i hi
          refine w_iload rfl ?_
          refine w_cne (by omega) (fun h11 => ?_) (fun h11 => ?_)
          · skip
            refine w_step rfl ?_
            refine w_push kc_1 ?_
            refine w_goto ?_
            refine w_step rfl ?_
            refine w_add ?_
            refine w_istore (lv' := [some (.ref 68), some (.int (jI k)), some (.int (jI (acc + 1))), some (.int (jI c)), some (.int (jI z7)), some (.int (jI z9))]) rfl ?_
            refine w_iinc (lv' := [some (.ref 68), some (.int (jI k)), some (.int (jI (acc + 1))), some (.int (jI (c + 1))), some (.int (jI z7)), some (.int (jI z9))]) kc_1 rfl rfl ?_
            refine w_goto ?_
            have ea : (acc + 1) = prC (tA t 84 k.toNat) (fun m => tA t 85 (24 * k.toNat + m)) (fun m => tA t 69 (5 + m)) (c + 1).toNat := by first | exact pour_y (v := z9) i3_0 (by constructor <;> omega) (by omega) i3_4 (by omega) | (have h7 := pour_n (sz := tA t 84 k.toNat) (rw := fun m => tA t 85 (24 * k.toNat + m)) (w := fun m => tA t 69 (5 + m)) i3_0 (fun q => q.2 (by omega)) i3_4; omega)
            have ex : ∀ m : Nat, tA t10 69 (5 + m) = if (m : Int) < c + 1 then prF (tA t 84 k.toNat) (fun m => tA t 85 (24 * k.toNat + m)) (fun m => tA t 69 (5 + m)) m else tA t 69 (5 + m) := by first | exact pour_wy (v := z9) i3_0 (by constructor <;> omega) (by omega) i3_5 ew | exact pour_wk i3_0 (fun q => q.2 (by omega)) (by omega) i3_5 ew
            exact ih3 _ (acc + 1) (c + 1) (some z7) (some z9) t10 ok10 fr10 (by omega) (by omega) (by omega) (by omega) ea ex eo2 (by omega) (by omega) (by omega)
          refine w_push kc_0 ?_
          refine w_goto ?_
          refine w_step rfl ?_
          refine w_add ?_
          refine w_istore (lv' := [some (.ref 68), some (.int (jI k)), some (.int (jI (acc + 0))), some (.int (jI c)), some (.int (jI z7)), some (.int (jI z9))]) rfl ?_
          refine w_iinc (lv' := [some (.ref 68), some (.int (jI k)), some (.int (jI (acc + 0))), some (.int (jI (c + 1))), some (.int (jI z7)), some (.int (jI z9))]) kc_1 rfl rfl ?_
          refine w_goto ?_
          have ea : (acc + 0) = prC (tA t 84 k.toNat) (fun m => tA t 85 (24 * k.toNat + m)) (fun m => tA t 69 (5 + m)) (c + 1).toNat := by first | exact pour_y (v := z9) i3_0 (by constructor <;> omega) (by omega) i3_4 (by omega) | (have h7 := pour_n (sz := tA t 84 k.toNat) (rw := fun m => tA t 85 (24 * k.toNat + m)) (w := fun m => tA t 69 (5 + m)) i3_0 (fun q => q.2 (by omega)) i3_4; omega)
          have ex : ∀ m : Nat, tA t10 69 (5 + m) = if (m : Int) < c + 1 then prF (tA t 84 k.toNat) (fun m => tA t 85 (24 * k.toNat + m)) (fun m => tA t 69 (5 + m)) m else tA t 69 (5 + m) := by first | exact pour_wy (v := z9) i3_0 (by constructor <;> omega) (by omega) i3_5 ew | exact pour_wk i3_0 (fun q => q.2 (by omega)) (by omega) i3_5 ew
          exact ih3 _ (acc + 0) (c + 1) (some z7) (some z9) t10 ok10 fr10 (by omega) (by omega) (by omega) (by omega) ea ex eo2 (by omega) (by omega) (by omega)
        refine w_aload rfl ?_
        refine w_getR (g_68_0 _) ?_
        refine w_push kc_5 ?_
        refine w_iload rfl ?_
        refine w_add ?_
        refine w_iald (i := ((5 + c)).toNat) (ai_69 _) (by omega) (by omega) (ax_69 (nr_W (by omega))) ok4 (fun z12 hz12 hl12 hh12 => ?_)
        have eo : z12 = tA t 69 (5 + c.toNat) := by
          rw [hz12, show (5 + c).toNat = 5 + c.toNat by omega, i3_5 c.toNat, if_neg (by omega)]
        refine w_goto ?_
        refine w_step rfl ?_
        refine w_istore (lv' := [some (.ref 68), some (.int (jI k)), some (.int (jI acc)), some (.int (jI c)), some (.int (jI z7)), some (.int (jI z12))]) rfl ?_
        refine w_iload rfl ?_
        refine w_aload rfl ?_
        refine w_push kc_5 ?_
        refine w_iload rfl ?_
        refine w_add ?_
        refine w_iload rfl ?_
        refine w_callV2I (oj_68 _).choose_spec rfl (c_X9_becomes ok4 (by omega) (by omega) ⟨_, _, nr_W (by omega), by omega, by omega⟩) ?_
        rintro z13 t13 ⟨ok13, fq13, hp13_0, hp13_1, hp13_2, hp13_3⟩
        have fr13 := fr4.then fq13 (by simp)
        have eold : z13 = tA t 69 (5 + c.toNat) := by
          rw [hp13_0, show (5 + c).toNat = 5 + c.toNat by omega, i3_5 c.toNat, if_neg (by omega)]
        have ew : ∀ m : Nat, tA t13 69 (5 + m) = if m = c.toNat then z12 else tA t4 69 (5 + m) := by
          intro m
          rw [hp13_1, tA_uA]
          by_cases h9 : m = c.toNat
          · rw [if_pos (by omega), if_pos h9]
          · rw [if_neg (by omega), if_neg h9]
        have eo2 : ∀ i, (i < 5 ∨ 29 ≤ i) → tA t13 69 i = tA t 69 i := fun i hi => by rw [hp13_1, tA_uA, if_neg (by omega)]; exact i3_6 i hi
        refine w_iload rfl ?_
        refine w_cne (by omega) (fun h14 => ?_) (fun h14 => ?_)
        · skip
          refine w_step rfl ?_
          refine w_push kc_1 ?_
          refine w_goto ?_
          refine w_step rfl ?_
          refine w_add ?_
          refine w_istore (lv' := [some (.ref 68), some (.int (jI k)), some (.int (jI (acc + 1))), some (.int (jI c)), some (.int (jI z7)), some (.int (jI z12))]) rfl ?_
          refine w_iinc (lv' := [some (.ref 68), some (.int (jI k)), some (.int (jI (acc + 1))), some (.int (jI (c + 1))), some (.int (jI z7)), some (.int (jI z12))]) kc_1 rfl rfl ?_
          refine w_goto ?_
          have ea : (acc + 1) = prC (tA t 84 k.toNat) (fun m => tA t 85 (24 * k.toNat + m)) (fun m => tA t 69 (5 + m)) (c + 1).toNat := by first | exact pour_y (v := z12) i3_0 (by constructor <;> omega) (by omega) i3_4 (by omega) | (have h7 := pour_n (sz := tA t 84 k.toNat) (rw := fun m => tA t 85 (24 * k.toNat + m)) (w := fun m => tA t 69 (5 + m)) i3_0 (fun q => q.2 (by omega)) i3_4; omega)
          have ex : ∀ m : Nat, tA t13 69 (5 + m) = if (m : Int) < c + 1 then prF (tA t 84 k.toNat) (fun m => tA t 85 (24 * k.toNat + m)) (fun m => tA t 69 (5 + m)) m else tA t 69 (5 + m) := by first | exact pour_wy (v := z12) i3_0 (by constructor <;> omega) (by omega) i3_5 ew | exact pour_wk i3_0 (fun q => q.2 (by omega)) (by omega) i3_5 ew
          exact ih3 _ (acc + 1) (c + 1) (some z7) (some z12) t13 ok13 fr13 (by omega) (by omega) (by omega) (by omega) ea ex eo2 (by omega) (by omega) (by omega)
        refine w_push kc_0 ?_
        refine w_goto ?_
        refine w_step rfl ?_
        refine w_add ?_
        refine w_istore (lv' := [some (.ref 68), some (.int (jI k)), some (.int (jI (acc + 0))), some (.int (jI c)), some (.int (jI z7)), some (.int (jI z12))]) rfl ?_
        refine w_iinc (lv' := [some (.ref 68), some (.int (jI k)), some (.int (jI (acc + 0))), some (.int (jI (c + 1))), some (.int (jI z7)), some (.int (jI z12))]) kc_1 rfl rfl ?_
        refine w_goto ?_
        have ea : (acc + 0) = prC (tA t 84 k.toNat) (fun m => tA t 85 (24 * k.toNat + m)) (fun m => tA t 69 (5 + m)) (c + 1).toNat := by first | exact pour_y (v := z12) i3_0 (by constructor <;> omega) (by omega) i3_4 (by omega) | (have h7 := pour_n (sz := tA t 84 k.toNat) (rw := fun m => tA t 85 (24 * k.toNat + m)) (w := fun m => tA t 69 (5 + m)) i3_0 (fun q => q.2 (by omega)) i3_4; omega)
        have ex : ∀ m : Nat, tA t13 69 (5 + m) = if (m : Int) < c + 1 then prF (tA t 84 k.toNat) (fun m => tA t 85 (24 * k.toNat + m)) (fun m => tA t 69 (5 + m)) m else tA t 69 (5 + m) := by first | exact pour_wy (v := z12) i3_0 (by constructor <;> omega) (by omega) i3_5 ew | exact pour_wk i3_0 (fun q => q.2 (by omega)) (by omega) i3_5 ew
        exact ih3 _ (acc + 0) (c + 1) (some z7) (some z12) t13 ok13 fr13 (by omega) (by omega) (by omega) (by omega) ea ex eo2 (by omega) (by omega) (by omega)
    exact key3 25 _ 0 0 none none t ok fr (by omega) (by omega) (by omega) (by omega) rfl (by intro m; rw [if_neg (by omega)]) (fun _ _ => rfl) (by omega) (by omega) (by omega)
  refine w_push kc_m1000000011 ?_
  refine w_retI rfl ?_
  exact ⟨ok, fr, (by first | (exact Or.inl ⟨by omega, by first | omega | (subst_vars; rfl), rfl⟩) | (exact Or.inr (Or.inl ⟨by omega, by omega, by first | omega | (subst_vars; rfl), rfl⟩)) | (exact Or.inr (Or.inr (⟨by omega, by omega, by rw [i3_4, show c.toNat = (tA t 84 k.toNat).toNat by omega], by intro m hm; rw [i3_5 m]; exact pour_end (by omega), i3_6⟩))))⟩
set_option maxRecDepth 100000 in
set_option maxHeartbeats 4000000 in
theorem c_X9_reads {d : Nat} {t : TS} {k : Int}  (ok : OK t) (q0 : -2147483648 ≤ k) (q1 : k ≤ 2147483647) : CI (EX FU (d + 3)) 211 [.ref 68, .int (jI k)] (mk t) (fun z t' => t = t' ∧ (-2147483648 ≤ z) ∧ (z ≤ 2147483647)) := by
  refine CI_ent (d := d + 2) (Bk := bX9_reads) (nL := 4) rfl rfl rfl (Nat.le_of_ble_eq_true rfl) ?_
  show Rn _ 1000000 0 [some (.ref 68), some (.int (jI k)), none, none] [] _ _
  have hn0 := (ok.a (ax_69 nr_1)).1
  have hn1 := (ok.a (ax_69 nr_1)).2
  refine w_step rfl ?_
  refine w_iload rfl ?_
  refine w_callS1I rfl (c_X9_isSheet ok (by omega) (by omega)) ?_
  rintro z1 t1 ⟨rfl, hp1_0⟩
  rcases hp1_0 with ⟨rfl, hp1_0⟩ | ⟨rfl, hp1_0⟩
  · skip
    refine w_ine (by omega) (fun h => absurd h (by omega)) (fun _ => ?_)
    refine w_push kc_m1000000001 ?_
    refine w_retI rfl ?_
    exact ⟨rfl, (by omega), (by omega)⟩
  refine w_ine (by omega) (fun _ => ?_) (fun h => absurd (by omega) h)
  refine w_step rfl ?_
  refine w_aload rfl ?_
  refine w_getR (g_68_26 _) ?_
  refine w_iload rfl ?_
  refine w_iald (i := (k).toNat) (ai_83 _) (by omega) (by omega) (ae_83 _) ok (fun z2 hz2 hl2 hh2 => ?_)
  refine w_ige (by omega) (fun h3 => ?_) (fun h3 => ?_)
  · skip
    refine w_step rfl ?_
    refine w_push kc_0 ?_
    refine w_istore (lv' := [some (.ref 68), some (.int (jI k)), some (.int (jI 0)), none]) rfl ?_
    refine w_goto ?_
    have key3 : ∀ (n3 M3 : Nat) (p : Int) (o3 : Option Int), (0 ≤ p) → (p ≤ 24) → 24 - p < (n3 : Int) → 60 * n3 + (1000) ≤ M3 → Rn (bX9_reads (EX FU (d + 2))) M3 3 [some (.ref 68), some (.int (jI k)), some (.int (jI p)), dv o3] [] (mk t) (PI (fun z t' => t = t' ∧ (-2147483648 ≤ z) ∧ (z ≤ 2147483647))) := by
      intro n3
      induction n3 with
      | zero => intro M3 p o3 i3_0 i3_1 v3 f3; exfalso; omega
      | succ n3 ih3 =>
        intro M3 p o3 i3_0 i3_1 v3 f3
        obtain ⟨M3, rfl⟩ : ∃ m, M3 = m + 60 := ⟨M3 - 60, by omega⟩
        refine w_step rfl ?_
        refine w_iload rfl ?_
        refine w_aload rfl ?_
        refine w_getR (g_68_27 _) ?_
        refine w_iload rfl ?_
        refine w_iald (i := (k).toNat) (ai_84 _) (by omega) (by omega) (ae_84 _) ok (fun z4 hz4 hl4 hh4 => ?_)
        refine w_cge (by omega) (fun h5 => ?_) (fun h5 => ?_)
        · skip
          refine w_step rfl ?_
          refine w_push kc_m1000000005 ?_
          refine w_retI rfl ?_
          exact ⟨rfl, (by omega), (by omega)⟩
        refine w_aload rfl ?_
        refine w_getR (g_68_28 _) ?_
        refine w_push kc_24 ?_
        refine w_iload rfl ?_
        refine w_mul ?_
        refine w_iload rfl ?_
        refine w_add ?_
        refine w_iald (i := (((24 * k) + p)).toNat) (ai_85 _) (by omega) (by omega) (ae_85 _) ok (fun z6 hz6 hl6 hh6 => ?_)
        refine w_istore (lv' := [some (.ref 68), some (.int (jI k)), some (.int (jI p)), some (.int (jI z6))]) rfl ?_
        refine w_iload rfl ?_
        refine w_push kc_m1000000005 ?_
        refine w_ceq (by omega) (fun h7 => ?_) (fun h7 => ?_)
        · skip
          refine w_step rfl ?_
          refine w_iinc (lv' := [some (.ref 68), some (.int (jI k)), some (.int (jI (p + 1))), some (.int (jI z6))]) kc_1 rfl rfl ?_
          refine w_goto ?_
          exact ih3 _ (p + 1) (some z6)  (by omega) (by omega) (by omega) (by omega)
        refine w_iload rfl ?_
        refine w_push kc_11 ?_
        refine w_cgt (by omega) (fun h8 => ?_) (fun h8 => ?_)
        · skip
          refine w_step rfl ?_
          refine w_iload rfl ?_
          refine w_retI rfl ?_
          exact ⟨rfl, (by omega), (by omega)⟩
        refine w_iload rfl ?_
        refine w_aload rfl ?_
        refine w_iload rfl ?_
        refine w_callV1I (oj_68 _).choose_spec rfl (c_X9_holder ok (by omega) (by omega)) ?_
        rintro z9 t9 ⟨rfl, hp9_0, hp9_1⟩
        refine w_ceq (by omega) (fun h10 => ?_) (fun h10 => ?_)
        · skip
          refine w_step rfl ?_
          refine w_iinc (lv' := [some (.ref 68), some (.int (jI k)), some (.int (jI (p + 1))), some (.int (jI z6))]) kc_1 rfl rfl ?_
          refine w_goto ?_
          exact ih3 _ (p + 1) (some z6)  (by omega) (by omega) (by omega) (by omega)
        refine w_goto ?_
        refine w_step rfl ?_
        refine w_iload rfl ?_
        refine w_retI rfl ?_
        exact ⟨rfl, (by omega), (by omega)⟩
    exact key3 25 _ 0 none  (by omega) (by omega) (by omega) (by omega)
  refine w_push kc_m1000000011 ?_
  refine w_retI rfl ?_
  exact ⟨rfl, (by omega), (by omega)⟩
set_option maxRecDepth 100000 in
set_option maxHeartbeats 4000000 in
theorem c_X9_keep {d : Nat} {t : TS}  (ok : OK t) : CI (EX FU (d + 2)) 219 [.ref 68] (mk t) (fun z t' => OK t' ∧ Fr [(70, 100), (68, 3)] t t' ∧ (z = tA t 69 1) ∧ (tI t' 68 3 = 1) ∧ (∀ i : Nat, i < 1461 → tA t' 70 i = tA t 69 i)) := by
  refine CI_ent (d := d + 1) (Bk := bX9_keep) (nL := 1) rfl rfl rfl (Nat.le_of_ble_eq_true rfl) ?_
  show Rn _ 1000000 0 [some (.ref 68)] [] _ _
  have fr : Fr [(70, 100), (68, 3)] t t := Fr.rf _ _
  have hn0 := (ok.a (ax_69 nr_1)).1
  have hn1 := (ok.a (ax_69 nr_1)).2
  refine w_step rfl ?_
  refine w_aload rfl ?_
  refine w_getR (g_68_0 _) ?_
  refine w_aload rfl ?_
  refine w_getR (g_68_1 _) ?_
  refine w_callS2V rfl (c_X9_copyAll_69_70 ok) ?_
  rintro t1 ⟨ok1, fq1, hp1_0⟩
  have fr1 := fr.then fq1 (by simp)
  have e0 := hp1_0
  have e1 := fq1.2.1 69 (by simp) 1
  refine w_aload rfl ?_
  refine w_push kc_1 ?_
  refine w_putZ (by omega) (p_68_3 _) fe_68_3 ok1 (by omega) (fun t2 ht2 ok2 => ?_)
  have fr2 := fr1.uI ht2 (by simp)
  have eK := ht2
  refine w_aload rfl ?_
  refine w_getR (g_68_0 _) ?_
  refine w_push kc_1 ?_
  refine w_iald (i := 1) (ai_69 _) (by omega) (by omega) (ax_69 nr_1) ok2 (fun z3 hz3 hl3 hh3 => ?_)
  have ez : z3 = tA t 69 1 := by rw [hz3, eK, tA_uI]; exact e1
  refine w_retI rfl ?_
  exact ⟨ok2, fr2, ez, (by rw [eK, tI_uI, if_pos ⟨rfl, rfl⟩]), (by intro i hi; rw [eK, tA_uI]; exact e0 i hi)⟩
set_option maxRecDepth 100000 in
set_option maxHeartbeats 4000000 in
theorem c_X9_back {d : Nat} {t : TS}  (ok : OK t) : CI (EX FU (d + 2)) 220 [.ref 68] (mk t) (fun z t' => OK t' ∧ Fr [(69, 100)] t t' ∧ (((tI t 68 3 = 0) ∧ z = (-1000000002) ∧ t' = t) ∨ ((¬ tI t 68 3 = 0) ∧ z = tA t 70 1 ∧ (∀ i : Nat, i < 1461 → tA t' 69 i = tA t 70 i)))) := by
  refine CI_ent (d := d + 1) (Bk := bX9_back) (nL := 1) rfl rfl rfl (Nat.le_of_ble_eq_true rfl) ?_
  show Rn _ 1000000 0 [some (.ref 68)] [] _ _
  have fr : Fr [(69, 100)] t t := Fr.rf _ _
  have hn0 := (ok.a (ax_69 nr_1)).1
  have hn1 := (ok.a (ax_69 nr_1)).2
  refine w_step rfl ?_
  refine w_aload rfl ?_
  refine w_getI (g_68_3 _) fe_68_3 ok (fun z1 hz1 hl1 hh1 => ?_)
  refine w_ine (by omega) (fun h2 => ?_) (fun h2 => ?_)
  · skip
    refine w_step rfl ?_
    refine w_aload rfl ?_
    refine w_getR (g_68_1 _) ?_
    refine w_aload rfl ?_
    refine w_getR (g_68_0 _) ?_
    refine w_callS2V rfl (c_X9_copyAll_70_69 ok) ?_
    rintro t3 ⟨ok3, fq3, hp3_0⟩
    have fr3 := fr.then fq3 (by simp)
    have e0 := hp3_0
    refine w_aload rfl ?_
    refine w_getR (g_68_0 _) ?_
    refine w_push kc_1 ?_
    refine w_iald (i := 1) (ai_69 _) (by omega) (by omega) (ax_69 nr_1) ok3 (fun z4 hz4 hl4 hh4 => ?_)
    have ez : z4 = tA t 70 1 := by rw [hz4]; exact e0 1 (by decide)
    refine w_retI rfl ?_
    exact ⟨ok3, fr3, (by first | (exact Or.inl ⟨by omega, by first | omega | (subst_vars; rfl), rfl⟩) | (exact Or.inr (⟨by omega, by first | omega | (subst_vars; rfl), e0⟩)))⟩
  refine w_push kc_m1000000002 ?_
  refine w_retI rfl ?_
  exact ⟨ok, fr, (by first | (exact Or.inl ⟨by omega, by first | omega | (subst_vars; rfl), rfl⟩) | (exact Or.inr (⟨by omega, by first | omega | (subst_vars; rfl), e0⟩)))⟩
set_option maxRecDepth 100000 in
set_option maxHeartbeats 4000000 in
theorem c_X9_tell {d : Nat} {t : TS} {v : Int}  (ok : OK t) (q0 : -2147483648 ≤ v) (q1 : v ≤ 2147483647) : CI (EX FU (d + 1)) 217 [.ref 68, .int (jI v)] (mk t) (fun z t' => OK t' ∧ Fr [(68, 35), (91, 100)] t t' ∧ (((60 ≤ tI t 68 35) ∧ z = (-1000000003) ∧ t' = t) ∨ ((tI t 68 35 < 60) ∧ z = tI t 68 35 + 1 ∧ (tI t' 68 35 = tI t 68 35 + 1) ∧ (∀ i, tA t' 91 i = if i = (tI t 68 35).toNat then v else tA t 91 i)))) := by
  refine CI_ent (d := d + 0) (Bk := bX9_tell) (nL := 2) rfl rfl rfl (Nat.le_of_ble_eq_true rfl) ?_
  show Rn _ 1000000 0 [some (.ref 68), some (.int (jI v))] [] _ _
  have fr : Fr [(68, 35), (91, 100)] t t := Fr.rf _ _
  have hn0 := (ok.a (ax_69 nr_1)).1
  have hn1 := (ok.a (ax_69 nr_1)).2
  refine w_step rfl ?_
  refine w_aload rfl ?_
  refine w_getI (g_68_35 _) fe_68_35 ok (fun z1 hz1 hl1 hh1 => ?_)
  refine w_push kc_60 ?_
  refine w_cne (by omega) (fun h2 => ?_) (fun h2 => ?_)
  · skip
    refine w_step rfl ?_
    refine w_aload rfl ?_
    refine w_getR (g_68_34 _) ?_
    refine w_aload rfl ?_
    refine w_getI (g_68_35 _) fe_68_35 ok (fun z3 hz3 hl3 hh3 => ?_)
    refine w_iload rfl ?_
    refine w_iast (i := (z3).toNat) (ai_91 _) rfl (by omega) (by omega) (ae_91 _) ok (by omega) (fun t4 ht4 ok4 => ?_)
    have fr4 := fr.uA ht4 (by simp)
    have e1 : tI t4 68 35 = tI t 68 35 := by rw [ht4, tI_uA]
    refine w_aload rfl ?_
    refine w_dupR ?_
    refine w_getI (g_68_35 _) fe_68_35 ok4 (fun z5 hz5 hl5 hh5 => ?_)
    refine w_push kc_1 ?_
    refine w_add ?_
    refine w_putI (p_68_35 _) fe_68_35 ok4 (by omega) (fun t6 ht6 ok6 => ?_)
    have fr6 := fr4.uI ht6 (by simp)
    have e2 : tI t6 68 35 = tI t 68 35 + 1 := by rw [ht6, tI_uI, if_pos ⟨rfl, rfl⟩]; omega
    refine w_aload rfl ?_
    refine w_getI (g_68_35 _) fe_68_35 ok6 (fun z7 hz7 hl7 hh7 => ?_)
    refine w_retI rfl ?_
    exact ⟨ok6, fr6, (by first | (exact Or.inl ⟨by omega, by first | omega | (subst_vars; rfl), rfl⟩) | (exact Or.inr (⟨by omega, by first | omega | (subst_vars; rfl), e2, by intro i; subst_vars; simp [tA_uI, tA_uA]⟩)))⟩
  refine w_push kc_m1000000003 ?_
  refine w_retI rfl ?_
  exact ⟨ok, fr, (by first | (exact Or.inl ⟨by omega, by first | omega | (subst_vars; rfl), rfl⟩) | (exact Or.inr (⟨by omega, by first | omega | (subst_vars; rfl), e2, by intro i; subst_vars; simp [tA_uI, tA_uA]⟩)))⟩
set_option maxRecDepth 100000 in
set_option maxHeartbeats 4000000 in
theorem c_X9_count {d : Nat} {t : TS} {w : Int}  (ok : OK t) (q0 : -2147483648 ≤ w) (q1 : w ≤ 2147483647) : CI (EX FU (d + 3)) 221 [.ref 68, .int (jI w)] (mk t) (fun z t' => t = t' ∧ (-2147483648 ≤ z) ∧ (z ≤ 2147483647)) := by
  refine CI_ent (d := d + 2) (Bk := bX9_count) (nL := 2) rfl rfl rfl (Nat.le_of_ble_eq_true rfl) ?_
  show Rn _ 1000000 0 [some (.ref 68), some (.int (jI w))] [] _ _
  have hn0 := (ok.a (ax_69 nr_1)).1
  have hn1 := (ok.a (ax_69 nr_1)).2
  refine w_step rfl ?_
  refine w_iload rfl ?_
  have hs1 : w = 0 ∨ w = 1 ∨ w = 2 ∨ w = 3 ∨ w = 4 ∨ w = 5 ∨ w = 6 ∨ w = 7 ∨ (w < 0 ∨ 0 + 8 ≤ w) := (by omega)
  rcases hs1 with hs1 | hs1 | hs1 | hs1 | hs1 | hs1 | hs1 | hs1 | hs1
  · refine w_sw (n := 1) (tsw_at hs1 (by decide)) ?_
    refine w_step rfl ?_
    refine w_aload rfl ?_
    refine w_getR (g_68_0 _) ?_
    refine w_push kc_1 ?_
    refine w_iald (i := 1) (ai_69 _) (by omega) (by omega) (ax_69 nr_1) ok (fun z2 hz2 hl2 hh2 => ?_)
    refine w_retI rfl ?_
    exact ⟨rfl, (by omega), (by omega)⟩
  · refine w_sw (n := 2) (tsw_at hs1 (by decide)) ?_
    refine w_step rfl ?_
    refine w_aload rfl ?_
    refine w_getR (g_68_0 _) ?_
    refine w_push kc_2 ?_
    refine w_iald (i := 2) (ai_69 _) (by omega) (by omega) (ax_69 nr_2) ok (fun z3 hz3 hl3 hh3 => ?_)
    refine w_retI rfl ?_
    exact ⟨rfl, (by omega), (by omega)⟩
  · refine w_sw (n := 3) (tsw_at hs1 (by decide)) ?_
    refine w_step rfl ?_
    refine w_aload rfl ?_
    refine w_getR (g_68_0 _) ?_
    refine w_push kc_3 ?_
    refine w_iald (i := 3) (ai_69 _) (by omega) (by omega) (ax_69 nr_3) ok (fun z4 hz4 hl4 hh4 => ?_)
    refine w_retI rfl ?_
    exact ⟨rfl, (by omega), (by omega)⟩
  · refine w_sw (n := 4) (tsw_at hs1 (by decide)) ?_
    refine w_step rfl ?_
    refine w_aload rfl ?_
    refine w_getR (g_68_0 _) ?_
    refine w_push kc_1 ?_
    refine w_iald (i := 1) (ai_69 _) (by omega) (by omega) (ax_69 nr_1) ok (fun z5 hz5 hl5 hh5 => ?_)
    refine w_aload rfl ?_
    refine w_callV0I (oj_68 _).choose_spec rfl (c_X9_manyLaid ok) ?_
    rintro z6 t6 ⟨rfl, hp6_0, hp6_1⟩
    refine w_sub ?_
    refine w_retI rfl ?_
    exact ⟨rfl, (by omega), (by omega)⟩
  · refine w_sw (n := 5) (tsw_at hs1 (by decide)) ?_
    refine w_step rfl ?_
    refine w_aload rfl ?_
    refine w_getR (g_68_0 _) ?_
    refine w_push kc_4 ?_
    refine w_iald (i := 4) (ai_69 _) (by omega) (by omega) (ax_69 nr_4) ok (fun z7 hz7 hl7 hh7 => ?_)
    refine w_retI rfl ?_
    exact ⟨rfl, (by omega), (by omega)⟩
  · refine w_sw (n := 6) (tsw_at hs1 (by decide)) ?_
    refine w_step rfl ?_
    refine w_aload rfl ?_
    refine w_getI (g_68_35 _) fe_68_35 ok (fun z8 hz8 hl8 hh8 => ?_)
    refine w_retI rfl ?_
    exact ⟨rfl, (by omega), (by omega)⟩
  · refine w_sw (n := 7) (tsw_at hs1 (by decide)) ?_
    refine w_step rfl ?_
    refine w_aload rfl ?_
    refine w_getI (g_68_9 _) fe_68_9 ok (fun z9 hz9 hl9 hh9 => ?_)
    refine w_retI rfl ?_
    exact ⟨rfl, (by omega), (by omega)⟩
  · refine w_sw (n := 8) (tsw_at hs1 (by decide)) ?_
    refine w_step rfl ?_
    refine w_aload rfl ?_
    refine w_getR (g_68_0 _) ?_
    refine w_push kc_0 ?_
    refine w_iald (i := 0) (ai_69 _) (by omega) (by omega) (ax_69 nr_0) ok (fun z10 hz10 hl10 hh10 => ?_)
    refine w_retI rfl ?_
    exact ⟨rfl, (by omega), (by omega)⟩
  · refine w_sw (n := 9) (tsw_df (m := 8) rfl (by omega) (by omega)) ?_
    refine w_step rfl ?_
    refine w_push kc_m1000000001 ?_
    refine w_retI rfl ?_
    exact ⟨rfl, (by omega), (by omega)⟩
set_option maxRecDepth 100000 in
set_option maxHeartbeats 4000000 in
theorem c_X9_check {d : Nat} {t : TS} {n : Int}  (ok : OK t) (q0 : WF t 69) (q1 : WF t 70) (q2 : -2147483648 ≤ n) (q3 : n ≤ 2147483647) : CI (EX FU (d + 7)) 218 [.ref 68, .int (jI n)] (mk t) (fun z t' => OK t' ∧ Fr [(68, 35), (69, 100), (71, 100), (81, 100), (82, 100)] t t' ∧ (-2147483648 ≤ z) ∧ (z ≤ 2147483647) ∧ (tI t' 68 35 = 0) ∧ (∀ i : Nat, i < 1461 → tA t' 69 i = tA t 69 i)) := by
  refine CI_ent (d := d + 6) (Bk := bX9_check) (nL := 6) rfl rfl rfl (Nat.le_of_ble_eq_true rfl) ?_
  show Rn _ 1000000 0 [some (.ref 68), some (.int (jI n)), none, none, none, none] [] _ _
  have fr : Fr [(68, 35), (69, 100), (71, 100), (81, 100), (82, 100)] t t := Fr.rf _ _
  have hn0 := (ok.a (ax_69 nr_1)).1
  have hn1 := (ok.a (ax_69 nr_1)).2
  refine w_step rfl ?_
  refine w_aload rfl ?_
  refine w_getI (g_68_35 _) fe_68_35 ok (fun z1 hz1 hl1 hh1 => ?_)
  refine w_istore (lv' := [some (.ref 68), some (.int (jI n)), some (.int (jI z1)), none, none, none]) rfl ?_
  refine w_aload rfl ?_
  refine w_push kc_0 ?_
  refine w_putI (p_68_35 _) fe_68_35 ok (by omega) (fun t2 ht2 ok2 => ?_)
  have fr2 := fr.uI ht2 (by simp)
  have wf2 := q0.uI ht2
  have ew : tI t2 68 35 = 0 := by rw [ht2, tI_uI, if_pos ⟨rfl, rfl⟩]
  have e6 : ∀ c i, tA t2 c i = tA t c i := fun c i => by rw [ht2, tA_uI]
  refine w_iload rfl ?_
  refine w_push kc_1 ?_
  refine w_push kc_30 ?_
  refine w_callS3I rfl (c_X9_in ok2 (by omega) (by omega) (by omega) (by omega) (by omega) (by omega)) ?_
  rintro z3 t3 ⟨rfl, hp3_0⟩
  rcases hp3_0 with ⟨rfl, hp3_0⟩ | ⟨rfl, hp3_0⟩
  · skip
    refine w_ine (by omega) (fun h => absurd h (by omega)) (fun _ => ?_)
    refine w_push kc_m1000000001 ?_
    refine w_retI rfl ?_
    exact ⟨ok2, fr2, (by omega), (by omega), ew, (by first | exact pf | exact fun i _ => e6 69 i)⟩
  refine w_ine (by omega) (fun _ => ?_) (fun h => absurd (by omega) h)
  refine w_step rfl ?_
  refine w_aload rfl ?_
  refine w_getI (g_68_3 _) fe_68_3 ok2 (fun z4 hz4 hl4 hh4 => ?_)
  refine w_ine (by omega) (fun h5 => ?_) (fun h5 => ?_)
  · skip
    refine w_step rfl ?_
    refine w_aload rfl ?_
    refine w_getR (g_68_0 _) ?_
    refine w_aload rfl ?_
    refine w_getR (g_68_2 _) ?_
    refine w_callS2V rfl (c_X9_copyAll_69_71 ok2) ?_
    rintro t6 ⟨ok6, fq6, hp6_0⟩
    have fr6 := fr2.then fq6 (by simp)
    have wf6 := wf2.fr fq6 (by simp)
    have e7 : ∀ i : Nat, i < 1461 → tA t6 71 i = tA t 69 i := fun i hi => (hp6_0 i hi).trans (e6 69 i)
    have ew : tI t6 68 35 = 0 := (fq6.1 68 35 (by simp)).trans ew
    have e5 : ∀ i, tA t6 70 i = tA t 70 i := fun i => (fq6.2.1 70 (by simp) i).trans (e6 70 i)
    refine w_aload rfl ?_
    refine w_getR (g_68_1 _) ?_
    refine w_aload rfl ?_
    refine w_getR (g_68_0 _) ?_
    refine w_callS2V rfl (c_X9_copyAll_70_69 ok6) ?_
    rintro t7 ⟨ok7, fq7, hp7_0⟩
    have fr7 := fr6.then fq7 (by simp)
    have e7 : ∀ i : Nat, i < 1461 → tA t7 71 i = tA t 69 i := fun i hi => (fq7.2.1 71 (by simp) i).trans (e7 i hi)
    have ew : tI t7 68 35 = 0 := (fq7.1 68 35 (by simp)).trans ew
    have wf7 : WF t7 69 := WF.cp (c := 70) (e := 69) (ok.a (ax_70 nr_4)).2 q1 (fun i hi => (hp7_0 i (by omega)).trans (e5 i))
    refine w_push kc_2 ?_
    refine w_push kc_9999 ?_
    refine w_aload rfl ?_
    refine w_getR (g_68_0 _) ?_
    refine w_push kc_2 ?_
    refine w_iald (i := 2) (ai_69 _) (by omega) (by omega) (ax_69 nr_2) ok7 (fun z8 hz8 hl8 hh8 => ?_)
    refine w_subW (fun z9 hz9 hl9 hh9 => ?_)
    refine w_push kc_0 ?_
    refine w_iload rfl ?_
    refine w_callS3I rfl (c_X9_within ok7 (by omega) (by omega) (by omega) (by omega) (by omega) (by omega) (by omega)) ?_
    rintro z10 t10 ⟨rfl, hp10_0⟩
    refine w_mul ?_
    refine w_istore (lv' := [some (.ref 68), some (.int (jI n)), some (.int (jI z1)), some (.int (jI (2 * z10))), none, none]) rfl ?_
    refine w_push kc_0 ?_
    refine w_istore (lv' := [some (.ref 68), some (.int (jI n)), some (.int (jI z1)), some (.int (jI (2 * z10))), some (.int (jI 0)), none]) rfl ?_
    refine w_push kc_0 ?_
    refine w_istore (lv' := [some (.ref 68), some (.int (jI n)), some (.int (jI z1)), some (.int (jI (2 * z10))), some (.int (jI 0)), some (.int (jI 0))]) rfl ?_
    refine w_goto ?_
    have key3 : ∀ (n3 M3 : Nat) (g : Int) (k : Int) (t11 : TS), OK t11 → Fr [(68, 35), (69, 100), (71, 100), (81, 100), (82, 100)] t t11 → WF t11 69 → (0 ≤ k) → (k ≤ 30) → (0 ≤ g) → (g ≤ 2 * k) → (∀ i : Nat, i < 1461 → tA t11 71 i = tA t 69 i) → (tI t11 68 35 = 0) → 31 - k < (n3 : Int) → 60 * n3 + (1000) ≤ M3 → Rn (bX9_check (EX FU (d + 6))) M3 3 [some (.ref 68), some (.int (jI n)), some (.int (jI z1)), some (.int (jI (2 * z10))), some (.int (jI g)), some (.int (jI k))] [] (mk t11) (PI (fun z t' => OK t' ∧ Fr [(68, 35), (69, 100), (71, 100), (81, 100), (82, 100)] t t' ∧ (-2147483648 ≤ z) ∧ (z ≤ 2147483647) ∧ (tI t' 68 35 = 0) ∧ (∀ i : Nat, i < 1461 → tA t' 69 i = tA t 69 i))) := by
      intro n3
      induction n3 with
      | zero => intro M3 g k t11 ok11 fr11 wf11 i3_0 i3_1 i3_2 i3_3 i3_4 i3_5 v3 f3; exfalso; omega
      | succ n3 ih3 =>
        intro M3 g k t11 ok11 fr11 wf11 i3_0 i3_1 i3_2 i3_3 i3_4 i3_5 v3 f3
        obtain ⟨M3, rfl⟩ : ∃ m, M3 = m + 60 := ⟨M3 - 60, by omega⟩
        have e7 := i3_4
        have ew := i3_5
        refine w_step rfl ?_
        refine w_push kc_2 ?_
        refine w_iload rfl ?_
        refine w_mul ?_
        refine w_iload rfl ?_
        refine w_cge (by omega) (fun h12 => ?_) (fun h12 => ?_)
        · skip
          refine w_step rfl ?_
          refine w_aload rfl ?_
          refine w_getR (g_68_2 _) ?_
          refine w_aload rfl ?_
          refine w_getR (g_68_0 _) ?_
          refine w_callS2V rfl (c_X9_copyAll_71_69 ok11) ?_
          rintro t13 ⟨ok13, fq13, hp13_0⟩
          have fr13 := fr11.then fq13 (by simp)
          have pf : ∀ i : Nat, i < 1461 → tA t13 69 i = tA t 69 i := fun i hi => (hp13_0 i hi).trans (e7 i hi)
          have ew : tI t13 68 35 = 0 := (fq13.1 68 35 (by simp)).trans ew
          refine w_iload rfl ?_
          refine w_iload rfl ?_
          refine w_cne (by omega) (fun h14 => ?_) (fun h14 => ?_)
          · skip
            refine w_step rfl ?_
            refine w_push kc_1 ?_
            refine w_iload rfl ?_
            refine w_add ?_
            refine w_goto ?_
            refine w_step rfl ?_
            refine w_retI rfl ?_
            exact ⟨ok13, fr13, (by omega), (by omega), ew, (by first | exact pf | exact fun i _ => e6 69 i)⟩
          refine w_iload rfl ?_
          refine w_iload rfl ?_
          refine w_cne (by omega) (fun h15 => ?_) (fun h15 => ?_)
          · skip
            refine w_step rfl ?_
            refine w_push kc_1 ?_
            refine w_iload rfl ?_
            refine w_add ?_
            refine w_goto ?_
            refine w_step rfl ?_
            refine w_retI rfl ?_
            exact ⟨ok13, fr13, (by omega), (by omega), ew, (by first | exact pf | exact fun i _ => e6 69 i)⟩
          refine w_push kc_0 ?_
          refine w_goto ?_
          refine w_step rfl ?_
          refine w_retI rfl ?_
          exact ⟨ok13, fr13, (by omega), (by omega), ew, (by first | exact pf | exact fun i _ => e6 69 i)⟩
        refine w_iload rfl ?_
        refine w_push kc_2 ?_
        refine w_iload rfl ?_
        refine w_mul ?_
        refine w_cne (by omega) (fun h16 => ?_) (fun h16 => ?_)
        · skip
          refine w_step rfl ?_
          refine w_aload rfl ?_
          refine w_getR (g_68_2 _) ?_
          refine w_aload rfl ?_
          refine w_getR (g_68_0 _) ?_
          refine w_callS2V rfl (c_X9_copyAll_71_69 ok11) ?_
          rintro t17 ⟨ok17, fq17, hp17_0⟩
          have fr17 := fr11.then fq17 (by simp)
          have pf : ∀ i : Nat, i < 1461 → tA t17 69 i = tA t 69 i := fun i hi => (hp17_0 i hi).trans (e7 i hi)
          have ew : tI t17 68 35 = 0 := (fq17.1 68 35 (by simp)).trans ew
          refine w_iload rfl ?_
          refine w_iload rfl ?_
          refine w_cne (by omega) (fun h18 => ?_) (fun h18 => ?_)
          · skip
            refine w_step rfl ?_
            refine w_push kc_1 ?_
            refine w_iload rfl ?_
            refine w_add ?_
            refine w_goto ?_
            refine w_step rfl ?_
            refine w_retI rfl ?_
            exact ⟨ok17, fr17, (by omega), (by omega), ew, (by first | exact pf | exact fun i _ => e6 69 i)⟩
          refine w_iload rfl ?_
          refine w_iload rfl ?_
          refine w_cne (by omega) (fun h19 => ?_) (fun h19 => ?_)
          · skip
            refine w_step rfl ?_
            refine w_push kc_1 ?_
            refine w_iload rfl ?_
            refine w_add ?_
            refine w_goto ?_
            refine w_step rfl ?_
            refine w_retI rfl ?_
            exact ⟨ok17, fr17, (by omega), (by omega), ew, (by first | exact pf | exact fun i _ => e6 69 i)⟩
          refine w_push kc_0 ?_
          refine w_goto ?_
          refine w_step rfl ?_
          refine w_retI rfl ?_
          exact ⟨ok17, fr17, (by omega), (by omega), ew, (by first | exact pf | exact fun i _ => e6 69 i)⟩
        refine w_aload rfl ?_
        refine w_callV0V (oj_68 _).choose_spec rfl (c_X9_day ok11 wf11) ?_
        rintro t20 ⟨ok20, fq20, hp20_0, hp20_1, hp20_2⟩
        have fr20 := fr11.then fq20 (by simp)
        have wf20 := wf11.dq hp20_0
        have e7 : ∀ i : Nat, i < 1461 → tA t20 71 i = tA t 69 i := fun i hi => (fq20.2.1 71 (by simp) i).trans (e7 i hi)
        have ew : tI t20 68 35 = 0 := (fq20.1 68 35 (by simp)).trans ew
        refine w_iload rfl ?_
        refine w_iload rfl ?_
        refine w_iload rfl ?_
        refine w_cge (by omega) (fun h21 => ?_) (fun h21 => ?_)
        · skip
          refine w_step rfl ?_
          refine w_push kc_0 ?_
          refine w_goto ?_
          refine w_step rfl ?_
          refine w_add ?_
          refine w_istore (lv' := [some (.ref 68), some (.int (jI n)), some (.int (jI z1)), some (.int (jI (2 * z10))), some (.int (jI (g + 0))), some (.int (jI k))]) rfl ?_
          refine w_iload rfl ?_
          refine w_iload rfl ?_
          refine w_push kc_2 ?_
          refine w_iload rfl ?_
          refine w_mul ?_
          refine w_push kc_1 ?_
          refine w_add ?_
          refine w_cne (by omega) (fun h22 => ?_) (fun h22 => ?_)
          · skip
            refine w_step rfl ?_
            refine w_push kc_0 ?_
            refine w_goto ?_
            refine w_step rfl ?_
            refine w_add ?_
            refine w_istore (lv' := [some (.ref 68), some (.int (jI n)), some (.int (jI z1)), some (.int (jI (2 * z10))), some (.int (jI ((g + 0) + 0))), some (.int (jI k))]) rfl ?_
            refine w_iinc (lv' := [some (.ref 68), some (.int (jI n)), some (.int (jI z1)), some (.int (jI (2 * z10))), some (.int (jI ((g + 0) + 0))), some (.int (jI (k + 1)))]) kc_1 rfl rfl ?_
            refine w_goto ?_
            exact ih3 _ ((g + 0) + 0) (k + 1) t20 ok20 fr20 wf20 (by omega) (by omega) (by omega) (by omega) e7 ew (by omega) (by omega)
          refine w_iload rfl ?_
          refine w_iload rfl ?_
          refine w_cge (by omega) (fun h23 => ?_) (fun h23 => ?_)
          · skip
            refine w_step rfl ?_
            refine w_push kc_0 ?_
            refine w_goto ?_
            refine w_step rfl ?_
            refine w_add ?_
            refine w_istore (lv' := [some (.ref 68), some (.int (jI n)), some (.int (jI z1)), some (.int (jI (2 * z10))), some (.int (jI ((g + 0) + 0))), some (.int (jI k))]) rfl ?_
            refine w_iinc (lv' := [some (.ref 68), some (.int (jI n)), some (.int (jI z1)), some (.int (jI (2 * z10))), some (.int (jI ((g + 0) + 0))), some (.int (jI (k + 1)))]) kc_1 rfl rfl ?_
            refine w_goto ?_
            exact ih3 _ ((g + 0) + 0) (k + 1) t20 ok20 fr20 wf20 (by omega) (by omega) (by omega) (by omega) e7 ew (by omega) (by omega)
          refine w_aload rfl ?_
          refine w_getR (g_68_34 _) ?_
          refine w_iload rfl ?_
          refine w_iald (i := ((g + 0)).toNat) (ai_91 _) (by omega) (by omega) (ae_91 _) ok20 (fun z24 hz24 hl24 hh24 => ?_)
          refine w_aload rfl ?_
          refine w_callV0I (oj_68 _).choose_spec rfl (c_X9_matches ok20) ?_
          rintro z25 t25 ⟨rfl, hp25_0, hp25_1⟩
          refine w_cne (by omega) (fun h26 => ?_) (fun h26 => ?_)
          · skip
            refine w_step rfl ?_
            refine w_push kc_0 ?_
            refine w_goto ?_
            refine w_step rfl ?_
            refine w_add ?_
            refine w_istore (lv' := [some (.ref 68), some (.int (jI n)), some (.int (jI z1)), some (.int (jI (2 * z10))), some (.int (jI ((g + 0) + 0))), some (.int (jI k))]) rfl ?_
            refine w_iinc (lv' := [some (.ref 68), some (.int (jI n)), some (.int (jI z1)), some (.int (jI (2 * z10))), some (.int (jI ((g + 0) + 0))), some (.int (jI (k + 1)))]) kc_1 rfl rfl ?_
            refine w_goto ?_
            exact ih3 _ ((g + 0) + 0) (k + 1) t20 ok20 fr20 wf20 (by omega) (by omega) (by omega) (by omega) e7 ew (by omega) (by omega)
          refine w_push kc_1 ?_
          refine w_goto ?_
          refine w_step rfl ?_
          refine w_add ?_
          refine w_istore (lv' := [some (.ref 68), some (.int (jI n)), some (.int (jI z1)), some (.int (jI (2 * z10))), some (.int (jI ((g + 0) + 1))), some (.int (jI k))]) rfl ?_
          refine w_iinc (lv' := [some (.ref 68), some (.int (jI n)), some (.int (jI z1)), some (.int (jI (2 * z10))), some (.int (jI ((g + 0) + 1))), some (.int (jI (k + 1)))]) kc_1 rfl rfl ?_
          refine w_goto ?_
          exact ih3 _ ((g + 0) + 1) (k + 1) t20 ok20 fr20 wf20 (by omega) (by omega) (by omega) (by omega) e7 ew (by omega) (by omega)
        refine w_aload rfl ?_
        refine w_getR (g_68_34 _) ?_
        refine w_iload rfl ?_
        refine w_iald (i := (g).toNat) (ai_91 _) (by omega) (by omega) (ae_91 _) ok20 (fun z27 hz27 hl27 hh27 => ?_)
        refine w_aload rfl ?_
        refine w_callV0I (oj_68 _).choose_spec rfl (c_X9_picture ok20 wf20) ?_
        rintro z28 t28 ⟨ok28, fq28, hp28_0, hp28_1⟩
        have fr28 := fr20.then fq28 (by simp)
        have wf28 := wf20.fr fq28 (by simp)
        have e7 : ∀ i : Nat, i < 1461 → tA t28 71 i = tA t 69 i := fun i hi => (fq28.2.1 71 (by simp) i).trans (e7 i hi)
        have ew : tI t28 68 35 = 0 := (fq28.1 68 35 (by simp)).trans ew
        refine w_cne (by omega) (fun h29 => ?_) (fun h29 => ?_)
        · skip
          refine w_step rfl ?_
          refine w_push kc_0 ?_
          refine w_goto ?_
          refine w_step rfl ?_
          refine w_add ?_
          refine w_istore (lv' := [some (.ref 68), some (.int (jI n)), some (.int (jI z1)), some (.int (jI (2 * z10))), some (.int (jI (g + 0))), some (.int (jI k))]) rfl ?_
          refine w_iload rfl ?_
          refine w_iload rfl ?_
          refine w_push kc_2 ?_
          refine w_iload rfl ?_
          refine w_mul ?_
          refine w_push kc_1 ?_
          refine w_add ?_
          refine w_cne (by omega) (fun h30 => ?_) (fun h30 => ?_)
          · skip
            refine w_step rfl ?_
            refine w_push kc_0 ?_
            refine w_goto ?_
            refine w_step rfl ?_
            refine w_add ?_
            refine w_istore (lv' := [some (.ref 68), some (.int (jI n)), some (.int (jI z1)), some (.int (jI (2 * z10))), some (.int (jI ((g + 0) + 0))), some (.int (jI k))]) rfl ?_
            refine w_iinc (lv' := [some (.ref 68), some (.int (jI n)), some (.int (jI z1)), some (.int (jI (2 * z10))), some (.int (jI ((g + 0) + 0))), some (.int (jI (k + 1)))]) kc_1 rfl rfl ?_
            refine w_goto ?_
            exact ih3 _ ((g + 0) + 0) (k + 1) t28 ok28 fr28 wf28 (by omega) (by omega) (by omega) (by omega) e7 ew (by omega) (by omega)
          refine w_iload rfl ?_
          refine w_iload rfl ?_
          refine w_cge (by omega) (fun h31 => ?_) (fun h31 => ?_)
          · skip
            refine w_step rfl ?_
            refine w_push kc_0 ?_
            refine w_goto ?_
            refine w_step rfl ?_
            refine w_add ?_
            refine w_istore (lv' := [some (.ref 68), some (.int (jI n)), some (.int (jI z1)), some (.int (jI (2 * z10))), some (.int (jI ((g + 0) + 0))), some (.int (jI k))]) rfl ?_
            refine w_iinc (lv' := [some (.ref 68), some (.int (jI n)), some (.int (jI z1)), some (.int (jI (2 * z10))), some (.int (jI ((g + 0) + 0))), some (.int (jI (k + 1)))]) kc_1 rfl rfl ?_
            refine w_goto ?_
            exact ih3 _ ((g + 0) + 0) (k + 1) t28 ok28 fr28 wf28 (by omega) (by omega) (by omega) (by omega) e7 ew (by omega) (by omega)
          refine w_aload rfl ?_
          refine w_getR (g_68_34 _) ?_
          refine w_iload rfl ?_
          refine w_iald (i := ((g + 0)).toNat) (ai_91 _) (by omega) (by omega) (ae_91 _) ok28 (fun z32 hz32 hl32 hh32 => ?_)
          refine w_aload rfl ?_
          refine w_callV0I (oj_68 _).choose_spec rfl (c_X9_matches ok28) ?_
          rintro z33 t33 ⟨rfl, hp33_0, hp33_1⟩
          refine w_cne (by omega) (fun h34 => ?_) (fun h34 => ?_)
          · skip
            refine w_step rfl ?_
            refine w_push kc_0 ?_
            refine w_goto ?_
            refine w_step rfl ?_
            refine w_add ?_
            refine w_istore (lv' := [some (.ref 68), some (.int (jI n)), some (.int (jI z1)), some (.int (jI (2 * z10))), some (.int (jI ((g + 0) + 0))), some (.int (jI k))]) rfl ?_
            refine w_iinc (lv' := [some (.ref 68), some (.int (jI n)), some (.int (jI z1)), some (.int (jI (2 * z10))), some (.int (jI ((g + 0) + 0))), some (.int (jI (k + 1)))]) kc_1 rfl rfl ?_
            refine w_goto ?_
            exact ih3 _ ((g + 0) + 0) (k + 1) t28 ok28 fr28 wf28 (by omega) (by omega) (by omega) (by omega) e7 ew (by omega) (by omega)
          refine w_push kc_1 ?_
          refine w_goto ?_
          refine w_step rfl ?_
          refine w_add ?_
          refine w_istore (lv' := [some (.ref 68), some (.int (jI n)), some (.int (jI z1)), some (.int (jI (2 * z10))), some (.int (jI ((g + 0) + 1))), some (.int (jI k))]) rfl ?_
          refine w_iinc (lv' := [some (.ref 68), some (.int (jI n)), some (.int (jI z1)), some (.int (jI (2 * z10))), some (.int (jI ((g + 0) + 1))), some (.int (jI (k + 1)))]) kc_1 rfl rfl ?_
          refine w_goto ?_
          exact ih3 _ ((g + 0) + 1) (k + 1) t28 ok28 fr28 wf28 (by omega) (by omega) (by omega) (by omega) e7 ew (by omega) (by omega)
        refine w_push kc_1 ?_
        refine w_goto ?_
        refine w_step rfl ?_
        refine w_add ?_
        refine w_istore (lv' := [some (.ref 68), some (.int (jI n)), some (.int (jI z1)), some (.int (jI (2 * z10))), some (.int (jI (g + 1))), some (.int (jI k))]) rfl ?_
        refine w_iload rfl ?_
        refine w_iload rfl ?_
        refine w_push kc_2 ?_
        refine w_iload rfl ?_
        refine w_mul ?_
        refine w_push kc_1 ?_
        refine w_add ?_
        refine w_cne (by omega) (fun h35 => ?_) (fun h35 => ?_)
        · skip
          refine w_step rfl ?_
          refine w_push kc_0 ?_
          refine w_goto ?_
          refine w_step rfl ?_
          refine w_add ?_
          refine w_istore (lv' := [some (.ref 68), some (.int (jI n)), some (.int (jI z1)), some (.int (jI (2 * z10))), some (.int (jI ((g + 1) + 0))), some (.int (jI k))]) rfl ?_
          refine w_iinc (lv' := [some (.ref 68), some (.int (jI n)), some (.int (jI z1)), some (.int (jI (2 * z10))), some (.int (jI ((g + 1) + 0))), some (.int (jI (k + 1)))]) kc_1 rfl rfl ?_
          refine w_goto ?_
          exact ih3 _ ((g + 1) + 0) (k + 1) t28 ok28 fr28 wf28 (by omega) (by omega) (by omega) (by omega) e7 ew (by omega) (by omega)
        refine w_iload rfl ?_
        refine w_iload rfl ?_
        refine w_cge (by omega) (fun h36 => ?_) (fun h36 => ?_)
        · skip
          refine w_step rfl ?_
          refine w_push kc_0 ?_
          refine w_goto ?_
          refine w_step rfl ?_
          refine w_add ?_
          refine w_istore (lv' := [some (.ref 68), some (.int (jI n)), some (.int (jI z1)), some (.int (jI (2 * z10))), some (.int (jI ((g + 1) + 0))), some (.int (jI k))]) rfl ?_
          refine w_iinc (lv' := [some (.ref 68), some (.int (jI n)), some (.int (jI z1)), some (.int (jI (2 * z10))), some (.int (jI ((g + 1) + 0))), some (.int (jI (k + 1)))]) kc_1 rfl rfl ?_
          refine w_goto ?_
          exact ih3 _ ((g + 1) + 0) (k + 1) t28 ok28 fr28 wf28 (by omega) (by omega) (by omega) (by omega) e7 ew (by omega) (by omega)
        refine w_aload rfl ?_
        refine w_getR (g_68_34 _) ?_
        refine w_iload rfl ?_
        refine w_iald (i := ((g + 1)).toNat) (ai_91 _) (by omega) (by omega) (ae_91 _) ok28 (fun z37 hz37 hl37 hh37 => ?_)
        refine w_aload rfl ?_
        refine w_callV0I (oj_68 _).choose_spec rfl (c_X9_matches ok28) ?_
        rintro z38 t38 ⟨rfl, hp38_0, hp38_1⟩
        refine w_cne (by omega) (fun h39 => ?_) (fun h39 => ?_)
        · skip
          refine w_step rfl ?_
          refine w_push kc_0 ?_
          refine w_goto ?_
          refine w_step rfl ?_
          refine w_add ?_
          refine w_istore (lv' := [some (.ref 68), some (.int (jI n)), some (.int (jI z1)), some (.int (jI (2 * z10))), some (.int (jI ((g + 1) + 0))), some (.int (jI k))]) rfl ?_
          refine w_iinc (lv' := [some (.ref 68), some (.int (jI n)), some (.int (jI z1)), some (.int (jI (2 * z10))), some (.int (jI ((g + 1) + 0))), some (.int (jI (k + 1)))]) kc_1 rfl rfl ?_
          refine w_goto ?_
          exact ih3 _ ((g + 1) + 0) (k + 1) t28 ok28 fr28 wf28 (by omega) (by omega) (by omega) (by omega) e7 ew (by omega) (by omega)
        refine w_push kc_1 ?_
        refine w_goto ?_
        refine w_step rfl ?_
        refine w_add ?_
        refine w_istore (lv' := [some (.ref 68), some (.int (jI n)), some (.int (jI z1)), some (.int (jI (2 * z10))), some (.int (jI ((g + 1) + 1))), some (.int (jI k))]) rfl ?_
        refine w_iinc (lv' := [some (.ref 68), some (.int (jI n)), some (.int (jI z1)), some (.int (jI (2 * z10))), some (.int (jI ((g + 1) + 1))), some (.int (jI (k + 1)))]) kc_1 rfl rfl ?_
        refine w_goto ?_
        exact ih3 _ ((g + 1) + 1) (k + 1) t28 ok28 fr28 wf28 (by omega) (by omega) (by omega) (by omega) e7 ew (by omega) (by omega)
    exact key3 32 _ 0 0 t7 ok7 fr7 wf7 (by omega) (by omega) (by omega) (by omega) e7 ew (by omega) (by omega)
  refine w_push kc_m1000000002 ?_
  refine w_retI rfl ?_
  exact ⟨ok2, fr2, (by omega), (by omega), ew, (by first | exact pf | exact fun i _ => e6 69 i)⟩
