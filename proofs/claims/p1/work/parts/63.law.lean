/-! ===== p1: the law ===== -/
theorem law_end {xs : List Int32} (hx : xs.length = 6) {N : Nat} {cal : ab_F} (w : ab_W) : ab_run (bL_law xs cal) (N + 3) 46 [some (.ref 1000001), some (.ref 0), some (.ref 68), some (.int 0)] [] w = some (some (.int 1), w) := by
  refine rn_step rfl ?_
  refine rb_iinc (lv' := [some (.ref 1000001), some (.ref 0), some (.ref 68), some (.int 6)]) rfl rfl ?_
  refine rb_goto ?_
  refine rn_step rfl ?_
  refine rb_iload rfl ?_
  refine rb_aload rfl ?_
  refine rb_xlen (j := 1) ?_
  rw [hx]
  refine rb_push ?_
  refine rb_binL (z := 0) (by decide) ?_
  refine rb_cgt (fun _ => ?_) (fun h => absurd (by decide) h)
  refine rn_step rfl ?_
  refine rb_push ?_
  exact rb_ret rfl rfl
theorem law_c0 (x0 x1 x2 x3 x4 x5 : Int32) : ∃ w', ab_run (bL_law [x0, x1, x2, x3, x4, x5] (EX FU 8)) 50 2 [some (.ref 1000001), some (.ref 0), some (.ref 68), some (.int 0)] [] (mkW s1) = some (some (.int 1), w') ∧ w'.length ≤ 600000 ∧ ab_tot w' ≤ 7302250 := by
  obtain ⟨v, w2, w3, fs, h1, h2, h3, h4, h5⟩ := p1_stone x1 x2 x3
  refine ⟨w3, ?_, h4, h5⟩
  refine rn_step rfl ?_
  refine rb_aload rfl ?_
  refine rb_aload rfl ?_
  refine rb_iload rfl ?_
  refine rb_push ?_
  refine rb_binL (z := 1) (by decide) ?_
  refine rb_xald (j := 1) (by decide) (x := x1) rfl ?_
  refine rb_aload rfl ?_
  refine rb_iload rfl ?_
  refine rb_push ?_
  refine rb_binL (z := 2) (by decide) ?_
  refine rb_xald (j := 1) (by decide) (x := x2) rfl ?_
  refine rb_aload rfl ?_
  refine rb_iload rfl ?_
  refine rb_push ?_
  refine rb_binL (z := 3) (by decide) ?_
  refine rb_xald (j := 1) (by decide) (x := x3) rfl ?_
  refine rb_callV3 (fs := _) rfl rfl h1 ?_
  refine rb_aload rfl ?_
  refine rb_aload rfl ?_
  refine rb_iload rfl ?_
  refine rb_push ?_
  refine rb_binL (z := 1) (by decide) ?_
  refine rb_xald (j := 1) (by decide) (x := x1) rfl ?_
  refine rb_aload rfl ?_
  refine rb_iload rfl ?_
  refine rb_push ?_
  refine rb_binL (z := 2) (by decide) ?_
  refine rb_xald (j := 1) (by decide) (x := x2) rfl ?_
  refine rb_aload rfl ?_
  refine rb_iload rfl ?_
  refine rb_push ?_
  refine rb_binL (z := 3) (by decide) ?_
  refine rb_xald (j := 1) (by decide) (x := x3) rfl ?_
  refine rb_callV3 h2 rfl h3 ?_
  refine rb_ceq (fun _ => ?_) (fun h => absurd rfl h)
  exact law_end rfl w3
theorem law_c1 (x0 x1 x2 x3 x4 x5 : Int32) : ∃ w', ab_run (bL_law [x0, x1, x2, x3, x4, x5] (EX FU 8)) 50 3 [some (.ref 1000001), some (.ref 0), some (.ref 68), some (.int 0)] [] (mkW s1) = some (some (.int 1), w') ∧ w'.length ≤ 600000 ∧ ab_tot w' ≤ 7302250 := by
  obtain ⟨v, w2, w3, fs, h1, h2, h3, h4, h5⟩ := p1_told x1 x2
  refine ⟨w3, ?_, h4, h5⟩
  refine rn_step rfl ?_
  refine rb_aload rfl ?_
  refine rb_aload rfl ?_
  refine rb_iload rfl ?_
  refine rb_push ?_
  refine rb_binL (z := 1) (by decide) ?_
  refine rb_xald (j := 1) (by decide) (x := x1) rfl ?_
  refine rb_aload rfl ?_
  refine rb_iload rfl ?_
  refine rb_push ?_
  refine rb_binL (z := 2) (by decide) ?_
  refine rb_xald (j := 1) (by decide) (x := x2) rfl ?_
  refine rb_callV2 (fs := _) rfl rfl h1 ?_
  refine rb_aload rfl ?_
  refine rb_aload rfl ?_
  refine rb_iload rfl ?_
  refine rb_push ?_
  refine rb_binL (z := 1) (by decide) ?_
  refine rb_xald (j := 1) (by decide) (x := x1) rfl ?_
  refine rb_aload rfl ?_
  refine rb_iload rfl ?_
  refine rb_push ?_
  refine rb_binL (z := 2) (by decide) ?_
  refine rb_xald (j := 1) (by decide) (x := x2) rfl ?_
  refine rb_callV2 h2 rfl h3 ?_
  refine rb_ceq (fun _ => ?_) (fun h => absurd rfl h)
  exact law_end rfl w3
theorem law_c2 (x0 x1 x2 x3 x4 x5 : Int32) : ∃ w', ab_run (bL_law [x0, x1, x2, x3, x4, x5] (EX FU 8)) 50 4 [some (.ref 1000001), some (.ref 0), some (.ref 68), some (.int 0)] [] (mkW s1) = some (some (.int 1), w') ∧ w'.length ≤ 600000 ∧ ab_tot w' ≤ 7302250 := by
  obtain ⟨v, w2, w3, fs, h1, h2, h3, h4, h5⟩ := p1_off x1 x2 x3
  refine ⟨w3, ?_, h4, h5⟩
  refine rn_step rfl ?_
  refine rb_aload rfl ?_
  refine rb_aload rfl ?_
  refine rb_iload rfl ?_
  refine rb_push ?_
  refine rb_binL (z := 1) (by decide) ?_
  refine rb_xald (j := 1) (by decide) (x := x1) rfl ?_
  refine rb_aload rfl ?_
  refine rb_iload rfl ?_
  refine rb_push ?_
  refine rb_binL (z := 2) (by decide) ?_
  refine rb_xald (j := 1) (by decide) (x := x2) rfl ?_
  refine rb_aload rfl ?_
  refine rb_iload rfl ?_
  refine rb_push ?_
  refine rb_binL (z := 3) (by decide) ?_
  refine rb_xald (j := 1) (by decide) (x := x3) rfl ?_
  refine rb_callV3 (fs := _) rfl rfl h1 ?_
  refine rb_aload rfl ?_
  refine rb_aload rfl ?_
  refine rb_iload rfl ?_
  refine rb_push ?_
  refine rb_binL (z := 1) (by decide) ?_
  refine rb_xald (j := 1) (by decide) (x := x1) rfl ?_
  refine rb_aload rfl ?_
  refine rb_iload rfl ?_
  refine rb_push ?_
  refine rb_binL (z := 2) (by decide) ?_
  refine rb_xald (j := 1) (by decide) (x := x2) rfl ?_
  refine rb_aload rfl ?_
  refine rb_iload rfl ?_
  refine rb_push ?_
  refine rb_binL (z := 3) (by decide) ?_
  refine rb_xald (j := 1) (by decide) (x := x3) rfl ?_
  refine rb_callV3 h2 rfl h3 ?_
  refine rb_ceq (fun _ => ?_) (fun h => absurd rfl h)
  exact law_end rfl w3
theorem law_c3 (x0 x1 x2 x3 x4 x5 : Int32) : ∃ w', ab_run (bL_law [x0, x1, x2, x3, x4, x5] (EX FU 8)) 50 5 [some (.ref 1000001), some (.ref 0), some (.ref 68), some (.int 0)] [] (mkW s1) = some (some (.int 1), w') ∧ w'.length ≤ 600000 ∧ ab_tot w' ≤ 7302250 := by
  obtain ⟨v, w2, w3, fs, h1, h2, h3, h4, h5⟩ := p1_as x1 x2
  refine ⟨w3, ?_, h4, h5⟩
  refine rn_step rfl ?_
  refine rb_aload rfl ?_
  refine rb_aload rfl ?_
  refine rb_iload rfl ?_
  refine rb_push ?_
  refine rb_binL (z := 1) (by decide) ?_
  refine rb_xald (j := 1) (by decide) (x := x1) rfl ?_
  refine rb_aload rfl ?_
  refine rb_iload rfl ?_
  refine rb_push ?_
  refine rb_binL (z := 2) (by decide) ?_
  refine rb_xald (j := 1) (by decide) (x := x2) rfl ?_
  refine rb_callV2 (fs := _) rfl rfl h1 ?_
  refine rb_aload rfl ?_
  refine rb_aload rfl ?_
  refine rb_iload rfl ?_
  refine rb_push ?_
  refine rb_binL (z := 1) (by decide) ?_
  refine rb_xald (j := 1) (by decide) (x := x1) rfl ?_
  refine rb_aload rfl ?_
  refine rb_iload rfl ?_
  refine rb_push ?_
  refine rb_binL (z := 2) (by decide) ?_
  refine rb_xald (j := 1) (by decide) (x := x2) rfl ?_
  refine rb_callV2 h2 rfl h3 ?_
  refine rb_ceq (fun _ => ?_) (fun h => absurd rfl h)
  exact law_end rfl w3
theorem law_c4 (x0 x1 x2 x3 x4 x5 : Int32) : ∃ w', ab_run (bL_law [x0, x1, x2, x3, x4, x5] (EX FU 8)) 50 6 [some (.ref 1000001), some (.ref 0), some (.ref 68), some (.int 0)] [] (mkW s1) = some (some (.int 1), w') ∧ w'.length ≤ 600000 ∧ ab_tot w' ≤ 7302250 := by
  obtain ⟨v, w2, w3, fs, h1, h2, h3, h4, h5⟩ := p1_turns x1 x2
  refine ⟨w3, ?_, h4, h5⟩
  refine rn_step rfl ?_
  refine rb_aload rfl ?_
  refine rb_aload rfl ?_
  refine rb_iload rfl ?_
  refine rb_push ?_
  refine rb_binL (z := 1) (by decide) ?_
  refine rb_xald (j := 1) (by decide) (x := x1) rfl ?_
  refine rb_aload rfl ?_
  refine rb_iload rfl ?_
  refine rb_push ?_
  refine rb_binL (z := 2) (by decide) ?_
  refine rb_xald (j := 1) (by decide) (x := x2) rfl ?_
  refine rb_callV2 (fs := _) rfl rfl h1 ?_
  refine rb_aload rfl ?_
  refine rb_aload rfl ?_
  refine rb_iload rfl ?_
  refine rb_push ?_
  refine rb_binL (z := 1) (by decide) ?_
  refine rb_xald (j := 1) (by decide) (x := x1) rfl ?_
  refine rb_aload rfl ?_
  refine rb_iload rfl ?_
  refine rb_push ?_
  refine rb_binL (z := 2) (by decide) ?_
  refine rb_xald (j := 1) (by decide) (x := x2) rfl ?_
  refine rb_callV2 h2 rfl h3 ?_
  refine rb_ceq (fun _ => ?_) (fun h => absurd rfl h)
  exact law_end rfl w3
theorem law_c5 (x0 x1 x2 x3 x4 x5 : Int32) : ∃ w', ab_run (bL_law [x0, x1, x2, x3, x4, x5] (EX FU 8)) 50 7 [some (.ref 1000001), some (.ref 0), some (.ref 68), some (.int 0)] [] (mkW s1) = some (some (.int 1), w') ∧ w'.length ≤ 600000 ∧ ab_tot w' ≤ 7302250 := by
  obtain ⟨v, w2, w3, fs, h1, h2, h3, h4, h5⟩ := p1_put x1 x2 x3
  refine ⟨w3, ?_, h4, h5⟩
  refine rn_step rfl ?_
  refine rb_aload rfl ?_
  refine rb_aload rfl ?_
  refine rb_iload rfl ?_
  refine rb_push ?_
  refine rb_binL (z := 1) (by decide) ?_
  refine rb_xald (j := 1) (by decide) (x := x1) rfl ?_
  refine rb_aload rfl ?_
  refine rb_iload rfl ?_
  refine rb_push ?_
  refine rb_binL (z := 2) (by decide) ?_
  refine rb_xald (j := 1) (by decide) (x := x2) rfl ?_
  refine rb_aload rfl ?_
  refine rb_iload rfl ?_
  refine rb_push ?_
  refine rb_binL (z := 3) (by decide) ?_
  refine rb_xald (j := 1) (by decide) (x := x3) rfl ?_
  refine rb_callV3 (fs := _) rfl rfl h1 ?_
  refine rb_aload rfl ?_
  refine rb_aload rfl ?_
  refine rb_iload rfl ?_
  refine rb_push ?_
  refine rb_binL (z := 1) (by decide) ?_
  refine rb_xald (j := 1) (by decide) (x := x1) rfl ?_
  refine rb_aload rfl ?_
  refine rb_iload rfl ?_
  refine rb_push ?_
  refine rb_binL (z := 2) (by decide) ?_
  refine rb_xald (j := 1) (by decide) (x := x2) rfl ?_
  refine rb_aload rfl ?_
  refine rb_iload rfl ?_
  refine rb_push ?_
  refine rb_binL (z := 3) (by decide) ?_
  refine rb_xald (j := 1) (by decide) (x := x3) rfl ?_
  refine rb_callV3 h2 rfl h3 ?_
  refine rb_ceq (fun _ => ?_) (fun h => absurd rfl h)
  exact law_end rfl w3
theorem law_c6 (x0 x1 x2 x3 x4 x5 : Int32) : ∃ w', ab_run (bL_law [x0, x1, x2, x3, x4, x5] (EX FU 8)) 50 8 [some (.ref 1000001), some (.ref 0), some (.ref 68), some (.int 0)] [] (mkW s1) = some (some (.int 1), w') ∧ w'.length ≤ 600000 ∧ ab_tot w' ≤ 7302250 := by
  obtain ⟨v, w2, w3, fs, h1, h2, h3, h4, h5⟩ := p1_box x1
  refine ⟨w3, ?_, h4, h5⟩
  refine rn_step rfl ?_
  refine rb_aload rfl ?_
  refine rb_aload rfl ?_
  refine rb_iload rfl ?_
  refine rb_push ?_
  refine rb_binL (z := 1) (by decide) ?_
  refine rb_xald (j := 1) (by decide) (x := x1) rfl ?_
  refine rb_callV1 (fs := _) rfl rfl h1 ?_
  refine rb_aload rfl ?_
  refine rb_aload rfl ?_
  refine rb_iload rfl ?_
  refine rb_push ?_
  refine rb_binL (z := 1) (by decide) ?_
  refine rb_xald (j := 1) (by decide) (x := x1) rfl ?_
  refine rb_callV1 h2 rfl h3 ?_
  refine rb_ceq (fun _ => ?_) (fun h => absurd rfl h)
  exact law_end rfl w3
theorem law_c7 (x0 x1 x2 x3 x4 x5 : Int32) : ∃ w', ab_run (bL_law [x0, x1, x2, x3, x4, x5] (EX FU 8)) 50 9 [some (.ref 1000001), some (.ref 0), some (.ref 68), some (.int 0)] [] (mkW s1) = some (some (.int 1), w') ∧ w'.length ≤ 600000 ∧ ab_tot w' ≤ 7302250 := by
  obtain ⟨v, w2, w3, fs, h1, h2, h3, h4, h5⟩ := p1_want x1 x2
  refine ⟨w3, ?_, h4, h5⟩
  refine rn_step rfl ?_
  refine rb_aload rfl ?_
  refine rb_aload rfl ?_
  refine rb_iload rfl ?_
  refine rb_push ?_
  refine rb_binL (z := 1) (by decide) ?_
  refine rb_xald (j := 1) (by decide) (x := x1) rfl ?_
  refine rb_aload rfl ?_
  refine rb_iload rfl ?_
  refine rb_push ?_
  refine rb_binL (z := 2) (by decide) ?_
  refine rb_xald (j := 1) (by decide) (x := x2) rfl ?_
  refine rb_callV2 (fs := _) rfl rfl h1 ?_
  refine rb_aload rfl ?_
  refine rb_aload rfl ?_
  refine rb_iload rfl ?_
  refine rb_push ?_
  refine rb_binL (z := 1) (by decide) ?_
  refine rb_xald (j := 1) (by decide) (x := x1) rfl ?_
  refine rb_aload rfl ?_
  refine rb_iload rfl ?_
  refine rb_push ?_
  refine rb_binL (z := 2) (by decide) ?_
  refine rb_xald (j := 1) (by decide) (x := x2) rfl ?_
  refine rb_callV2 h2 rfl h3 ?_
  refine rb_ceq (fun _ => ?_) (fun h => absurd rfl h)
  exact law_end rfl w3
theorem law_c8 (x0 x1 x2 x3 x4 x5 : Int32) : ∃ w', ab_run (bL_law [x0, x1, x2, x3, x4, x5] (EX FU 8)) 50 10 [some (.ref 1000001), some (.ref 0), some (.ref 68), some (.int 0)] [] (mkW s1) = some (some (.int 1), w') ∧ w'.length ≤ 600000 ∧ ab_tot w' ≤ 7302250 := by
  obtain ⟨v, w2, w3, fs, h1, h2, h3, h4, h5⟩ := p1_wind x1
  refine ⟨w3, ?_, h4, h5⟩
  refine rn_step rfl ?_
  refine rb_aload rfl ?_
  refine rb_aload rfl ?_
  refine rb_iload rfl ?_
  refine rb_push ?_
  refine rb_binL (z := 1) (by decide) ?_
  refine rb_xald (j := 1) (by decide) (x := x1) rfl ?_
  refine rb_callV1 (fs := _) rfl rfl h1 ?_
  refine rb_aload rfl ?_
  refine rb_aload rfl ?_
  refine rb_iload rfl ?_
  refine rb_push ?_
  refine rb_binL (z := 1) (by decide) ?_
  refine rb_xald (j := 1) (by decide) (x := x1) rfl ?_
  refine rb_callV1 h2 rfl h3 ?_
  refine rb_ceq (fun _ => ?_) (fun h => absurd rfl h)
  exact law_end rfl w3
theorem law_c9 (x0 x1 x2 x3 x4 x5 : Int32) : ∃ w', ab_run (bL_law [x0, x1, x2, x3, x4, x5] (EX FU 8)) 50 11 [some (.ref 1000001), some (.ref 0), some (.ref 68), some (.int 0)] [] (mkW s1) = some (some (.int 1), w') ∧ w'.length ≤ 600000 ∧ ab_tot w' ≤ 7302250 := by
  obtain ⟨v, w2, w3, fs, h1, h2, h3, h4, h5⟩ := p1_deal x1
  refine ⟨w3, ?_, h4, h5⟩
  refine rn_step rfl ?_
  refine rb_aload rfl ?_
  refine rb_aload rfl ?_
  refine rb_iload rfl ?_
  refine rb_push ?_
  refine rb_binL (z := 1) (by decide) ?_
  refine rb_xald (j := 1) (by decide) (x := x1) rfl ?_
  refine rb_callV1 (fs := _) rfl rfl h1 ?_
  refine rb_aload rfl ?_
  refine rb_aload rfl ?_
  refine rb_iload rfl ?_
  refine rb_push ?_
  refine rb_binL (z := 1) (by decide) ?_
  refine rb_xald (j := 1) (by decide) (x := x1) rfl ?_
  refine rb_callV1 h2 rfl h3 ?_
  refine rb_ceq (fun _ => ?_) (fun h => absurd rfl h)
  exact law_end rfl w3
theorem law_c10 (x0 x1 x2 x3 x4 x5 : Int32) : ∃ w', ab_run (bL_law [x0, x1, x2, x3, x4, x5] (EX FU 8)) 50 12 [some (.ref 1000001), some (.ref 0), some (.ref 68), some (.int 0)] [] (mkW s1) = some (some (.int 1), w') ∧ w'.length ≤ 600000 ∧ ab_tot w' ≤ 7302250 := by
  obtain ⟨v, w2, w3, fs, h1, h2, h3, h4, h5⟩ := p1_seed x1
  refine ⟨w3, ?_, h4, h5⟩
  refine rn_step rfl ?_
  refine rb_aload rfl ?_
  refine rb_aload rfl ?_
  refine rb_iload rfl ?_
  refine rb_push ?_
  refine rb_binL (z := 1) (by decide) ?_
  refine rb_xald (j := 1) (by decide) (x := x1) rfl ?_
  refine rb_callV1 (fs := _) rfl rfl h1 ?_
  refine rb_aload rfl ?_
  refine rb_aload rfl ?_
  refine rb_iload rfl ?_
  refine rb_push ?_
  refine rb_binL (z := 1) (by decide) ?_
  refine rb_xald (j := 1) (by decide) (x := x1) rfl ?_
  refine rb_callV1 h2 rfl h3 ?_
  refine rb_ceq (fun _ => ?_) (fun h => absurd rfl h)
  exact law_end rfl w3
theorem law_c11 (x0 x1 x2 x3 x4 x5 : Int32) : ∃ w', ab_run (bL_law [x0, x1, x2, x3, x4, x5] (EX FU 8)) 50 13 [some (.ref 1000001), some (.ref 0), some (.ref 68), some (.int 0)] [] (mkW s1) = some (some (.int 1), w') ∧ w'.length ≤ 600000 ∧ ab_tot w' ≤ 7302250 := by
  obtain ⟨v, w2, w3, fs, h1, h2, h3, h4, h5⟩ := p1_days x1
  refine ⟨w3, ?_, h4, h5⟩
  refine rn_step rfl ?_
  refine rb_aload rfl ?_
  refine rb_aload rfl ?_
  refine rb_iload rfl ?_
  refine rb_push ?_
  refine rb_binL (z := 1) (by decide) ?_
  refine rb_xald (j := 1) (by decide) (x := x1) rfl ?_
  refine rb_callV1 (fs := _) rfl rfl h1 ?_
  refine rb_aload rfl ?_
  refine rb_aload rfl ?_
  refine rb_iload rfl ?_
  refine rb_push ?_
  refine rb_binL (z := 1) (by decide) ?_
  refine rb_xald (j := 1) (by decide) (x := x1) rfl ?_
  refine rb_callV1 h2 rfl h3 ?_
  refine rb_ceq (fun _ => ?_) (fun h => absurd rfl h)
  exact law_end rfl w3
theorem law_c12 (x0 x1 x2 x3 x4 x5 : Int32) : ∃ w', ab_run (bL_law [x0, x1, x2, x3, x4, x5] (EX FU 8)) 50 14 [some (.ref 1000001), some (.ref 0), some (.ref 68), some (.int 0)] [] (mkW s1) = some (some (.int 1), w') ∧ w'.length ≤ 600000 ∧ ab_tot w' ≤ 7302250 := by
  obtain ⟨v, w2, w3, fs, h1, h2, h3, h4, h5⟩ := p1_king x1
  refine ⟨w3, ?_, h4, h5⟩
  refine rn_step rfl ?_
  refine rb_aload rfl ?_
  refine rb_aload rfl ?_
  refine rb_iload rfl ?_
  refine rb_push ?_
  refine rb_binL (z := 1) (by decide) ?_
  refine rb_xald (j := 1) (by decide) (x := x1) rfl ?_
  refine rb_callV1 (fs := _) rfl rfl h1 ?_
  refine rb_aload rfl ?_
  refine rb_aload rfl ?_
  refine rb_iload rfl ?_
  refine rb_push ?_
  refine rb_binL (z := 1) (by decide) ?_
  refine rb_xald (j := 1) (by decide) (x := x1) rfl ?_
  refine rb_callV1 h2 rfl h3 ?_
  refine rb_ceq (fun _ => ?_) (fun h => absurd rfl h)
  exact law_end rfl w3
theorem law_c13 (x0 x1 x2 x3 x4 x5 : Int32) : ∃ w', ab_run (bL_law [x0, x1, x2, x3, x4, x5] (EX FU 8)) 50 15 [some (.ref 1000001), some (.ref 0), some (.ref 68), some (.int 0)] [] (mkW s1) = some (some (.int 1), w') ∧ w'.length ≤ 600000 ∧ ab_tot w' ≤ 7302250 := by
  obtain ⟨v, w2, w3, fs, h1, h2, h3, h4, h5⟩ := p1_at x1
  refine ⟨w3, ?_, h4, h5⟩
  refine rn_step rfl ?_
  refine rb_aload rfl ?_
  refine rb_aload rfl ?_
  refine rb_iload rfl ?_
  refine rb_push ?_
  refine rb_binL (z := 1) (by decide) ?_
  refine rb_xald (j := 1) (by decide) (x := x1) rfl ?_
  refine rb_callV1 (fs := _) rfl rfl h1 ?_
  refine rb_aload rfl ?_
  refine rb_aload rfl ?_
  refine rb_iload rfl ?_
  refine rb_push ?_
  refine rb_binL (z := 1) (by decide) ?_
  refine rb_xald (j := 1) (by decide) (x := x1) rfl ?_
  refine rb_callV1 h2 rfl h3 ?_
  refine rb_ceq (fun _ => ?_) (fun h => absurd rfl h)
  exact law_end rfl w3
theorem law_c14 (x0 x1 x2 x3 x4 x5 : Int32) : ∃ w', ab_run (bL_law [x0, x1, x2, x3, x4, x5] (EX FU 8)) 50 16 [some (.ref 1000001), some (.ref 0), some (.ref 68), some (.int 0)] [] (mkW s1) = some (some (.int 1), w') ∧ w'.length ≤ 600000 ∧ ab_tot w' ≤ 7302250 := by
  obtain ⟨v, w2, w3, fs, h1, h2, h3, h4, h5⟩ := p1_best x1 x2
  refine ⟨w3, ?_, h4, h5⟩
  refine rn_step rfl ?_
  refine rb_aload rfl ?_
  refine rb_aload rfl ?_
  refine rb_iload rfl ?_
  refine rb_push ?_
  refine rb_binL (z := 1) (by decide) ?_
  refine rb_xald (j := 1) (by decide) (x := x1) rfl ?_
  refine rb_aload rfl ?_
  refine rb_iload rfl ?_
  refine rb_push ?_
  refine rb_binL (z := 2) (by decide) ?_
  refine rb_xald (j := 1) (by decide) (x := x2) rfl ?_
  refine rb_callV2 (fs := _) rfl rfl h1 ?_
  refine rb_aload rfl ?_
  refine rb_aload rfl ?_
  refine rb_iload rfl ?_
  refine rb_push ?_
  refine rb_binL (z := 1) (by decide) ?_
  refine rb_xald (j := 1) (by decide) (x := x1) rfl ?_
  refine rb_aload rfl ?_
  refine rb_iload rfl ?_
  refine rb_push ?_
  refine rb_binL (z := 2) (by decide) ?_
  refine rb_xald (j := 1) (by decide) (x := x2) rfl ?_
  refine rb_callV2 h2 rfl h3 ?_
  refine rb_ceq (fun _ => ?_) (fun h => absurd rfl h)
  exact law_end rfl w3
theorem law_c15 (x0 x1 x2 x3 x4 x5 : Int32) : ∃ w', ab_run (bL_law [x0, x1, x2, x3, x4, x5] (EX FU 8)) 50 17 [some (.ref 1000001), some (.ref 0), some (.ref 68), some (.int 0)] [] (mkW s1) = some (some (.int 1), w') ∧ w'.length ≤ 600000 ∧ ab_tot w' ≤ 7302250 := by
  obtain ⟨v, w2, w3, fs, h1, h2, h3, h4, h5⟩ := p1_bestFor x1 x2
  refine ⟨w3, ?_, h4, h5⟩
  refine rn_step rfl ?_
  refine rb_aload rfl ?_
  refine rb_aload rfl ?_
  refine rb_iload rfl ?_
  refine rb_push ?_
  refine rb_binL (z := 1) (by decide) ?_
  refine rb_xald (j := 1) (by decide) (x := x1) rfl ?_
  refine rb_aload rfl ?_
  refine rb_iload rfl ?_
  refine rb_push ?_
  refine rb_binL (z := 2) (by decide) ?_
  refine rb_xald (j := 1) (by decide) (x := x2) rfl ?_
  refine rb_callV2 (fs := _) rfl rfl h1 ?_
  refine rb_aload rfl ?_
  refine rb_aload rfl ?_
  refine rb_iload rfl ?_
  refine rb_push ?_
  refine rb_binL (z := 1) (by decide) ?_
  refine rb_xald (j := 1) (by decide) (x := x1) rfl ?_
  refine rb_aload rfl ?_
  refine rb_iload rfl ?_
  refine rb_push ?_
  refine rb_binL (z := 2) (by decide) ?_
  refine rb_xald (j := 1) (by decide) (x := x2) rfl ?_
  refine rb_callV2 h2 rfl h3 ?_
  refine rb_ceq (fun _ => ?_) (fun h => absurd rfl h)
  exact law_end rfl w3
theorem law_c16 (x0 x1 x2 x3 x4 x5 : Int32) : ∃ w', ab_run (bL_law [x0, x1, x2, x3, x4, x5] (EX FU 8)) 50 18 [some (.ref 1000001), some (.ref 0), some (.ref 68), some (.int 0)] [] (mkW s1) = some (some (.int 1), w') ∧ w'.length ≤ 600000 ∧ ab_tot w' ≤ 7302250 := by
  obtain ⟨v, w2, w3, fs, h1, h2, h3, h4, h5⟩ := p1_swap 
  refine ⟨w3, ?_, h4, h5⟩
  refine rn_step rfl ?_
  refine rb_aload rfl ?_
  refine rb_callV0 (fs := _) rfl rfl h1 ?_
  refine rb_aload rfl ?_
  refine rb_callV0 h2 rfl h3 ?_
  refine rb_ceq (fun _ => ?_) (fun h => absurd rfl h)
  exact law_end rfl w3
theorem law_c17 (x0 x1 x2 x3 x4 x5 : Int32) : ∃ w', ab_run (bL_law [x0, x1, x2, x3, x4, x5] (EX FU 8)) 50 19 [some (.ref 1000001), some (.ref 0), some (.ref 68), some (.int 0)] [] (mkW s1) = some (some (.int 1), w') ∧ w'.length ≤ 600000 ∧ ab_tot w' ≤ 7302250 := by
  obtain ⟨v, w2, w3, fs, h1, h2, h3, h4, h5⟩ := p1_knocked x1
  refine ⟨w3, ?_, h4, h5⟩
  refine rn_step rfl ?_
  refine rb_aload rfl ?_
  refine rb_aload rfl ?_
  refine rb_iload rfl ?_
  refine rb_push ?_
  refine rb_binL (z := 1) (by decide) ?_
  refine rb_xald (j := 1) (by decide) (x := x1) rfl ?_
  refine rb_callV1 (fs := _) rfl rfl h1 ?_
  refine rb_aload rfl ?_
  refine rb_aload rfl ?_
  refine rb_iload rfl ?_
  refine rb_push ?_
  refine rb_binL (z := 1) (by decide) ?_
  refine rb_xald (j := 1) (by decide) (x := x1) rfl ?_
  refine rb_callV1 h2 rfl h3 ?_
  refine rb_ceq (fun _ => ?_) (fun h => absurd rfl h)
  exact law_end rfl w3
theorem law_c18 (x0 x1 x2 x3 x4 x5 : Int32) : ∃ w', ab_run (bL_law [x0, x1, x2, x3, x4, x5] (EX FU 8)) 50 20 [some (.ref 1000001), some (.ref 0), some (.ref 68), some (.int 0)] [] (mkW s1) = some (some (.int 1), w') ∧ w'.length ≤ 600000 ∧ ab_tot w' ≤ 7302250 := by
  obtain ⟨v, w2, w3, fs, h1, h2, h3, h4, h5⟩ := p1_push x1
  refine ⟨w3, ?_, h4, h5⟩
  refine rn_step rfl ?_
  refine rb_aload rfl ?_
  refine rb_aload rfl ?_
  refine rb_iload rfl ?_
  refine rb_push ?_
  refine rb_binL (z := 1) (by decide) ?_
  refine rb_xald (j := 1) (by decide) (x := x1) rfl ?_
  refine rb_callV1 (fs := _) rfl rfl h1 ?_
  refine rb_aload rfl ?_
  refine rb_aload rfl ?_
  refine rb_iload rfl ?_
  refine rb_push ?_
  refine rb_binL (z := 1) (by decide) ?_
  refine rb_xald (j := 1) (by decide) (x := x1) rfl ?_
  refine rb_callV1 h2 rfl h3 ?_
  refine rb_ceq (fun _ => ?_) (fun h => absurd rfl h)
  exact law_end rfl w3
theorem law_c19 (x0 x1 x2 x3 x4 x5 : Int32) : ∃ w', ab_run (bL_law [x0, x1, x2, x3, x4, x5] (EX FU 8)) 50 21 [some (.ref 1000001), some (.ref 0), some (.ref 68), some (.int 0)] [] (mkW s1) = some (some (.int 1), w') ∧ w'.length ≤ 600000 ∧ ab_tot w' ≤ 7302250 := by
  obtain ⟨v, w2, w3, fs, h1, h2, h3, h4, h5⟩ := p1_behind x1 x2
  refine ⟨w3, ?_, h4, h5⟩
  refine rn_step rfl ?_
  refine rb_aload rfl ?_
  refine rb_aload rfl ?_
  refine rb_iload rfl ?_
  refine rb_push ?_
  refine rb_binL (z := 1) (by decide) ?_
  refine rb_xald (j := 1) (by decide) (x := x1) rfl ?_
  refine rb_aload rfl ?_
  refine rb_iload rfl ?_
  refine rb_push ?_
  refine rb_binL (z := 2) (by decide) ?_
  refine rb_xald (j := 1) (by decide) (x := x2) rfl ?_
  refine rb_callV2 (fs := _) rfl rfl h1 ?_
  refine rb_aload rfl ?_
  refine rb_aload rfl ?_
  refine rb_iload rfl ?_
  refine rb_push ?_
  refine rb_binL (z := 1) (by decide) ?_
  refine rb_xald (j := 1) (by decide) (x := x1) rfl ?_
  refine rb_aload rfl ?_
  refine rb_iload rfl ?_
  refine rb_push ?_
  refine rb_binL (z := 2) (by decide) ?_
  refine rb_xald (j := 1) (by decide) (x := x2) rfl ?_
  refine rb_callV2 h2 rfl h3 ?_
  refine rb_ceq (fun _ => ?_) (fun h => absurd rfl h)
  exact law_end rfl w3
theorem law_c20 (x0 x1 x2 x3 x4 x5 : Int32) : ∃ w', ab_run (bL_law [x0, x1, x2, x3, x4, x5] (EX FU 8)) 50 22 [some (.ref 1000001), some (.ref 0), some (.ref 68), some (.int 0)] [] (mkW s1) = some (some (.int 1), w') ∧ w'.length ≤ 600000 ∧ ab_tot w' ≤ 7302250 := by
  obtain ⟨v, w2, w3, fs, h1, h2, h3, h4, h5⟩ := p1_laid 
  refine ⟨w3, ?_, h4, h5⟩
  refine rn_step rfl ?_
  refine rb_aload rfl ?_
  refine rb_callV0 (fs := _) rfl rfl h1 ?_
  refine rb_aload rfl ?_
  refine rb_callV0 h2 rfl h3 ?_
  refine rb_ceq (fun _ => ?_) (fun h => absurd rfl h)
  exact law_end rfl w3
theorem law_c21 (x0 x1 x2 x3 x4 x5 : Int32) : ∃ w', ab_run (bL_law [x0, x1, x2, x3, x4, x5] (EX FU 8)) 50 23 [some (.ref 1000001), some (.ref 0), some (.ref 68), some (.int 0)] [] (mkW s1) = some (some (.int 1), w') ∧ w'.length ≤ 600000 ∧ ab_tot w' ≤ 7302250 := by
  obtain ⟨v, w2, w3, fs, h1, h2, h3, h4, h5⟩ := p1_lost x1 x2
  refine ⟨w3, ?_, h4, h5⟩
  refine rn_step rfl ?_
  refine rb_aload rfl ?_
  refine rb_aload rfl ?_
  refine rb_iload rfl ?_
  refine rb_push ?_
  refine rb_binL (z := 1) (by decide) ?_
  refine rb_xald (j := 1) (by decide) (x := x1) rfl ?_
  refine rb_aload rfl ?_
  refine rb_iload rfl ?_
  refine rb_push ?_
  refine rb_binL (z := 2) (by decide) ?_
  refine rb_xald (j := 1) (by decide) (x := x2) rfl ?_
  refine rb_callV2 (fs := _) rfl rfl h1 ?_
  refine rb_aload rfl ?_
  refine rb_aload rfl ?_
  refine rb_iload rfl ?_
  refine rb_push ?_
  refine rb_binL (z := 1) (by decide) ?_
  refine rb_xald (j := 1) (by decide) (x := x1) rfl ?_
  refine rb_aload rfl ?_
  refine rb_iload rfl ?_
  refine rb_push ?_
  refine rb_binL (z := 2) (by decide) ?_
  refine rb_xald (j := 1) (by decide) (x := x2) rfl ?_
  refine rb_callV2 h2 rfl h3 ?_
  refine rb_ceq (fun _ => ?_) (fun h => absurd rfl h)
  exact law_end rfl w3
theorem law_c22 (x0 x1 x2 x3 x4 x5 : Int32) : ∃ w', ab_run (bL_law [x0, x1, x2, x3, x4, x5] (EX FU 8)) 50 24 [some (.ref 1000001), some (.ref 0), some (.ref 68), some (.int 0)] [] (mkW s1) = some (some (.int 1), w') ∧ w'.length ≤ 600000 ∧ ab_tot w' ≤ 7302250 := by
  obtain ⟨v, w2, w3, fs, h1, h2, h3, h4, h5⟩ := p1_seen x1 x2
  refine ⟨w3, ?_, h4, h5⟩
  refine rn_step rfl ?_
  refine rb_aload rfl ?_
  refine rb_aload rfl ?_
  refine rb_iload rfl ?_
  refine rb_push ?_
  refine rb_binL (z := 1) (by decide) ?_
  refine rb_xald (j := 1) (by decide) (x := x1) rfl ?_
  refine rb_aload rfl ?_
  refine rb_iload rfl ?_
  refine rb_push ?_
  refine rb_binL (z := 2) (by decide) ?_
  refine rb_xald (j := 1) (by decide) (x := x2) rfl ?_
  refine rb_callV2 (fs := _) rfl rfl h1 ?_
  refine rb_aload rfl ?_
  refine rb_aload rfl ?_
  refine rb_iload rfl ?_
  refine rb_push ?_
  refine rb_binL (z := 1) (by decide) ?_
  refine rb_xald (j := 1) (by decide) (x := x1) rfl ?_
  refine rb_aload rfl ?_
  refine rb_iload rfl ?_
  refine rb_push ?_
  refine rb_binL (z := 2) (by decide) ?_
  refine rb_xald (j := 1) (by decide) (x := x2) rfl ?_
  refine rb_callV2 h2 rfl h3 ?_
  refine rb_ceq (fun _ => ?_) (fun h => absurd rfl h)
  exact law_end rfl w3
theorem law_c23 (x0 x1 x2 x3 x4 x5 : Int32) : ∃ w', ab_run (bL_law [x0, x1, x2, x3, x4, x5] (EX FU 8)) 50 25 [some (.ref 1000001), some (.ref 0), some (.ref 68), some (.int 0)] [] (mkW s1) = some (some (.int 1), w') ∧ w'.length ≤ 600000 ∧ ab_tot w' ≤ 7302250 := by
  obtain ⟨v, w2, w3, fs, h1, h2, h3, h4, h5⟩ := p1_fee 
  refine ⟨w3, ?_, h4, h5⟩
  refine rn_step rfl ?_
  refine rb_aload rfl ?_
  refine rb_callV0 (fs := _) rfl rfl h1 ?_
  refine rb_aload rfl ?_
  refine rb_callV0 h2 rfl h3 ?_
  refine rb_ceq (fun _ => ?_) (fun h => absurd rfl h)
  exact law_end rfl w3
theorem law_c24 (x0 x1 x2 x3 x4 x5 : Int32) : ∃ w', ab_run (bL_law [x0, x1, x2, x3, x4, x5] (EX FU 8)) 50 26 [some (.ref 1000001), some (.ref 0), some (.ref 68), some (.int 0)] [] (mkW s1) = some (some (.int 1), w') ∧ w'.length ≤ 600000 ∧ ab_tot w' ≤ 7302250 := by
  obtain ⟨v, w2, w3, fs, h1, h2, h3, h4, h5⟩ := p1_fine x1
  refine ⟨w3, ?_, h4, h5⟩
  refine rn_step rfl ?_
  refine rb_aload rfl ?_
  refine rb_aload rfl ?_
  refine rb_iload rfl ?_
  refine rb_push ?_
  refine rb_binL (z := 1) (by decide) ?_
  refine rb_xald (j := 1) (by decide) (x := x1) rfl ?_
  refine rb_callV1 (fs := _) rfl rfl h1 ?_
  refine rb_aload rfl ?_
  refine rb_aload rfl ?_
  refine rb_iload rfl ?_
  refine rb_push ?_
  refine rb_binL (z := 1) (by decide) ?_
  refine rb_xald (j := 1) (by decide) (x := x1) rfl ?_
  refine rb_callV1 h2 rfl h3 ?_
  refine rb_ceq (fun _ => ?_) (fun h => absurd rfl h)
  exact law_end rfl w3
theorem law_c25 (x0 x1 x2 x3 x4 x5 : Int32) : ∃ w', ab_run (bL_law [x0, x1, x2, x3, x4, x5] (EX FU 8)) 50 27 [some (.ref 1000001), some (.ref 0), some (.ref 68), some (.int 0)] [] (mkW s1) = some (some (.int 1), w') ∧ w'.length ≤ 600000 ∧ ab_tot w' ≤ 7302250 := by
  obtain ⟨v, w2, w3, fs, h1, h2, h3, h4, h5⟩ := p1_feed x1 x2 x3
  refine ⟨w3, ?_, h4, h5⟩
  refine rn_step rfl ?_
  refine rb_aload rfl ?_
  refine rb_aload rfl ?_
  refine rb_iload rfl ?_
  refine rb_push ?_
  refine rb_binL (z := 1) (by decide) ?_
  refine rb_xald (j := 1) (by decide) (x := x1) rfl ?_
  refine rb_aload rfl ?_
  refine rb_iload rfl ?_
  refine rb_push ?_
  refine rb_binL (z := 2) (by decide) ?_
  refine rb_xald (j := 1) (by decide) (x := x2) rfl ?_
  refine rb_aload rfl ?_
  refine rb_iload rfl ?_
  refine rb_push ?_
  refine rb_binL (z := 3) (by decide) ?_
  refine rb_xald (j := 1) (by decide) (x := x3) rfl ?_
  refine rb_callV3 (fs := _) rfl rfl h1 ?_
  refine rb_aload rfl ?_
  refine rb_aload rfl ?_
  refine rb_iload rfl ?_
  refine rb_push ?_
  refine rb_binL (z := 1) (by decide) ?_
  refine rb_xald (j := 1) (by decide) (x := x1) rfl ?_
  refine rb_aload rfl ?_
  refine rb_iload rfl ?_
  refine rb_push ?_
  refine rb_binL (z := 2) (by decide) ?_
  refine rb_xald (j := 1) (by decide) (x := x2) rfl ?_
  refine rb_aload rfl ?_
  refine rb_iload rfl ?_
  refine rb_push ?_
  refine rb_binL (z := 3) (by decide) ?_
  refine rb_xald (j := 1) (by decide) (x := x3) rfl ?_
  refine rb_callV3 h2 rfl h3 ?_
  refine rb_ceq (fun _ => ?_) (fun h => absurd rfl h)
  exact law_end rfl w3
theorem law_c26 (x0 x1 x2 x3 x4 x5 : Int32) : ∃ w', ab_run (bL_law [x0, x1, x2, x3, x4, x5] (EX FU 8)) 50 28 [some (.ref 1000001), some (.ref 0), some (.ref 68), some (.int 0)] [] (mkW s1) = some (some (.int 1), w') ∧ w'.length ≤ 600000 ∧ ab_tot w' ≤ 7302250 := by
  obtain ⟨v, w2, w3, fs, h1, h2, h3, h4, h5⟩ := p1_trim x1
  refine ⟨w3, ?_, h4, h5⟩
  refine rn_step rfl ?_
  refine rb_aload rfl ?_
  refine rb_aload rfl ?_
  refine rb_iload rfl ?_
  refine rb_push ?_
  refine rb_binL (z := 1) (by decide) ?_
  refine rb_xald (j := 1) (by decide) (x := x1) rfl ?_
  refine rb_callV1 (fs := _) rfl rfl h1 ?_
  refine rb_aload rfl ?_
  refine rb_aload rfl ?_
  refine rb_iload rfl ?_
  refine rb_push ?_
  refine rb_binL (z := 1) (by decide) ?_
  refine rb_xald (j := 1) (by decide) (x := x1) rfl ?_
  refine rb_callV1 h2 rfl h3 ?_
  refine rb_ceq (fun _ => ?_) (fun h => absurd rfl h)
  exact law_end rfl w3
theorem law_c27 (x0 x1 x2 x3 x4 x5 : Int32) : ∃ w', ab_run (bL_law [x0, x1, x2, x3, x4, x5] (EX FU 8)) 50 29 [some (.ref 1000001), some (.ref 0), some (.ref 68), some (.int 0)] [] (mkW s1) = some (some (.int 1), w') ∧ w'.length ≤ 600000 ∧ ab_tot w' ≤ 7302250 := by
  obtain ⟨v, w2, w3, fs, h1, h2, h3, h4, h5⟩ := p1_text 
  refine ⟨w3, ?_, h4, h5⟩
  refine rn_step rfl ?_
  refine rb_aload rfl ?_
  refine rb_callV0 (fs := _) rfl rfl h1 ?_
  refine rb_aload rfl ?_
  refine rb_callV0 h2 rfl h3 ?_
  refine rb_ceq (fun _ => ?_) (fun h => absurd rfl h)
  exact law_end rfl w3
theorem law_c28 (x0 x1 x2 x3 x4 x5 : Int32) : ∃ w', ab_run (bL_law [x0, x1, x2, x3, x4, x5] (EX FU 8)) 50 30 [some (.ref 1000001), some (.ref 0), some (.ref 68), some (.int 0)] [] (mkW s1) = some (some (.int 1), w') ∧ w'.length ≤ 600000 ∧ ab_tot w' ≤ 7302250 := by
  obtain ⟨v, w2, w3, fs, h1, h2, h3, h4, h5⟩ := p1_textTold x1 x2
  refine ⟨w3, ?_, h4, h5⟩
  refine rn_step rfl ?_
  refine rb_aload rfl ?_
  refine rb_aload rfl ?_
  refine rb_iload rfl ?_
  refine rb_push ?_
  refine rb_binL (z := 1) (by decide) ?_
  refine rb_xald (j := 1) (by decide) (x := x1) rfl ?_
  refine rb_aload rfl ?_
  refine rb_iload rfl ?_
  refine rb_push ?_
  refine rb_binL (z := 2) (by decide) ?_
  refine rb_xald (j := 1) (by decide) (x := x2) rfl ?_
  refine rb_callV2 (fs := _) rfl rfl h1 ?_
  refine rb_aload rfl ?_
  refine rb_aload rfl ?_
  refine rb_iload rfl ?_
  refine rb_push ?_
  refine rb_binL (z := 1) (by decide) ?_
  refine rb_xald (j := 1) (by decide) (x := x1) rfl ?_
  refine rb_aload rfl ?_
  refine rb_iload rfl ?_
  refine rb_push ?_
  refine rb_binL (z := 2) (by decide) ?_
  refine rb_xald (j := 1) (by decide) (x := x2) rfl ?_
  refine rb_callV2 h2 rfl h3 ?_
  refine rb_ceq (fun _ => ?_) (fun h => absurd rfl h)
  exact law_end rfl w3
theorem law_c29 (x0 x1 x2 x3 x4 x5 : Int32) : ∃ w', ab_run (bL_law [x0, x1, x2, x3, x4, x5] (EX FU 8)) 50 31 [some (.ref 1000001), some (.ref 0), some (.ref 68), some (.int 0)] [] (mkW s1) = some (some (.int 1), w') ∧ w'.length ≤ 600000 ∧ ab_tot w' ≤ 7302250 := by
  obtain ⟨v, w2, w3, fs, h1, h2, h3, h4, h5⟩ := p1_why x1
  refine ⟨w3, ?_, h4, h5⟩
  refine rn_step rfl ?_
  refine rb_aload rfl ?_
  refine rb_aload rfl ?_
  refine rb_iload rfl ?_
  refine rb_push ?_
  refine rb_binL (z := 1) (by decide) ?_
  refine rb_xald (j := 1) (by decide) (x := x1) rfl ?_
  refine rb_callV1 (fs := _) rfl rfl h1 ?_
  refine rb_aload rfl ?_
  refine rb_aload rfl ?_
  refine rb_iload rfl ?_
  refine rb_push ?_
  refine rb_binL (z := 1) (by decide) ?_
  refine rb_xald (j := 1) (by decide) (x := x1) rfl ?_
  refine rb_callV1 h2 rfl h3 ?_
  refine rb_ceq (fun _ => ?_) (fun h => absurd rfl h)
  exact law_end rfl w3
theorem law_c30 (x0 x1 x2 x3 x4 x5 : Int32) : ∃ w', ab_run (bL_law [x0, x1, x2, x3, x4, x5] (EX FU 8)) 50 32 [some (.ref 1000001), some (.ref 0), some (.ref 68), some (.int 0)] [] (mkW s1) = some (some (.int 1), w') ∧ w'.length ≤ 600000 ∧ ab_tot w' ≤ 7302250 := by
  obtain ⟨v, w2, w3, fs, h1, h2, h3, h4, h5⟩ := p1_sheet x1 x2 x3
  refine ⟨w3, ?_, h4, h5⟩
  refine rn_step rfl ?_
  refine rb_aload rfl ?_
  refine rb_aload rfl ?_
  refine rb_iload rfl ?_
  refine rb_push ?_
  refine rb_binL (z := 1) (by decide) ?_
  refine rb_xald (j := 1) (by decide) (x := x1) rfl ?_
  refine rb_aload rfl ?_
  refine rb_iload rfl ?_
  refine rb_push ?_
  refine rb_binL (z := 2) (by decide) ?_
  refine rb_xald (j := 1) (by decide) (x := x2) rfl ?_
  refine rb_aload rfl ?_
  refine rb_iload rfl ?_
  refine rb_push ?_
  refine rb_binL (z := 3) (by decide) ?_
  refine rb_xald (j := 1) (by decide) (x := x3) rfl ?_
  refine rb_callV3 (fs := _) rfl rfl h1 ?_
  refine rb_aload rfl ?_
  refine rb_aload rfl ?_
  refine rb_iload rfl ?_
  refine rb_push ?_
  refine rb_binL (z := 1) (by decide) ?_
  refine rb_xald (j := 1) (by decide) (x := x1) rfl ?_
  refine rb_aload rfl ?_
  refine rb_iload rfl ?_
  refine rb_push ?_
  refine rb_binL (z := 2) (by decide) ?_
  refine rb_xald (j := 1) (by decide) (x := x2) rfl ?_
  refine rb_aload rfl ?_
  refine rb_iload rfl ?_
  refine rb_push ?_
  refine rb_binL (z := 3) (by decide) ?_
  refine rb_xald (j := 1) (by decide) (x := x3) rfl ?_
  refine rb_callV3 h2 rfl h3 ?_
  refine rb_ceq (fun _ => ?_) (fun h => absurd rfl h)
  exact law_end rfl w3
theorem law_c31 (x0 x1 x2 x3 x4 x5 : Int32) : ∃ w', ab_run (bL_law [x0, x1, x2, x3, x4, x5] (EX FU 8)) 50 33 [some (.ref 1000001), some (.ref 0), some (.ref 68), some (.int 0)] [] (mkW s1) = some (some (.int 1), w') ∧ w'.length ≤ 600000 ∧ ab_tot w' ≤ 7302250 := by
  obtain ⟨v, w2, w3, fs, h1, h2, h3, h4, h5⟩ := p1_mark x1 x2 x3
  refine ⟨w3, ?_, h4, h5⟩
  refine rn_step rfl ?_
  refine rb_aload rfl ?_
  refine rb_aload rfl ?_
  refine rb_iload rfl ?_
  refine rb_push ?_
  refine rb_binL (z := 1) (by decide) ?_
  refine rb_xald (j := 1) (by decide) (x := x1) rfl ?_
  refine rb_aload rfl ?_
  refine rb_iload rfl ?_
  refine rb_push ?_
  refine rb_binL (z := 2) (by decide) ?_
  refine rb_xald (j := 1) (by decide) (x := x2) rfl ?_
  refine rb_aload rfl ?_
  refine rb_iload rfl ?_
  refine rb_push ?_
  refine rb_binL (z := 3) (by decide) ?_
  refine rb_xald (j := 1) (by decide) (x := x3) rfl ?_
  refine rb_callV3 (fs := _) rfl rfl h1 ?_
  refine rb_aload rfl ?_
  refine rb_aload rfl ?_
  refine rb_iload rfl ?_
  refine rb_push ?_
  refine rb_binL (z := 1) (by decide) ?_
  refine rb_xald (j := 1) (by decide) (x := x1) rfl ?_
  refine rb_aload rfl ?_
  refine rb_iload rfl ?_
  refine rb_push ?_
  refine rb_binL (z := 2) (by decide) ?_
  refine rb_xald (j := 1) (by decide) (x := x2) rfl ?_
  refine rb_aload rfl ?_
  refine rb_iload rfl ?_
  refine rb_push ?_
  refine rb_binL (z := 3) (by decide) ?_
  refine rb_xald (j := 1) (by decide) (x := x3) rfl ?_
  refine rb_callV3 h2 rfl h3 ?_
  refine rb_ceq (fun _ => ?_) (fun h => absurd rfl h)
  exact law_end rfl w3
theorem law_c32 (x0 x1 x2 x3 x4 x5 : Int32) : ∃ w', ab_run (bL_law [x0, x1, x2, x3, x4, x5] (EX FU 8)) 50 34 [some (.ref 1000001), some (.ref 0), some (.ref 68), some (.int 0)] [] (mkW s1) = some (some (.int 1), w') ∧ w'.length ≤ 600000 ∧ ab_tot w' ≤ 7302250 := by
  obtain ⟨v, w2, w3, fs, h1, h2, h3, h4, h5⟩ := p1_pour x1
  refine ⟨w3, ?_, h4, h5⟩
  refine rn_step rfl ?_
  refine rb_aload rfl ?_
  refine rb_aload rfl ?_
  refine rb_iload rfl ?_
  refine rb_push ?_
  refine rb_binL (z := 1) (by decide) ?_
  refine rb_xald (j := 1) (by decide) (x := x1) rfl ?_
  refine rb_callV1 (fs := _) rfl rfl h1 ?_
  refine rb_aload rfl ?_
  refine rb_aload rfl ?_
  refine rb_iload rfl ?_
  refine rb_push ?_
  refine rb_binL (z := 1) (by decide) ?_
  refine rb_xald (j := 1) (by decide) (x := x1) rfl ?_
  refine rb_callV1 h2 rfl h3 ?_
  refine rb_ceq (fun _ => ?_) (fun h => absurd rfl h)
  exact law_end rfl w3
theorem law_c33 (x0 x1 x2 x3 x4 x5 : Int32) : ∃ w', ab_run (bL_law [x0, x1, x2, x3, x4, x5] (EX FU 8)) 50 35 [some (.ref 1000001), some (.ref 0), some (.ref 68), some (.int 0)] [] (mkW s1) = some (some (.int 1), w') ∧ w'.length ≤ 600000 ∧ ab_tot w' ≤ 7302250 := by
  obtain ⟨v, w2, w3, fs, h1, h2, h3, h4, h5⟩ := p1_reads x1
  refine ⟨w3, ?_, h4, h5⟩
  refine rn_step rfl ?_
  refine rb_aload rfl ?_
  refine rb_aload rfl ?_
  refine rb_iload rfl ?_
  refine rb_push ?_
  refine rb_binL (z := 1) (by decide) ?_
  refine rb_xald (j := 1) (by decide) (x := x1) rfl ?_
  refine rb_callV1 (fs := _) rfl rfl h1 ?_
  refine rb_aload rfl ?_
  refine rb_aload rfl ?_
  refine rb_iload rfl ?_
  refine rb_push ?_
  refine rb_binL (z := 1) (by decide) ?_
  refine rb_xald (j := 1) (by decide) (x := x1) rfl ?_
  refine rb_callV1 h2 rfl h3 ?_
  refine rb_ceq (fun _ => ?_) (fun h => absurd rfl h)
  exact law_end rfl w3
theorem law_c34 (x0 x1 x2 x3 x4 x5 : Int32) : ∃ w', ab_run (bL_law [x0, x1, x2, x3, x4, x5] (EX FU 8)) 50 36 [some (.ref 1000001), some (.ref 0), some (.ref 68), some (.int 0)] [] (mkW s1) = some (some (.int 1), w') ∧ w'.length ≤ 600000 ∧ ab_tot w' ≤ 7302250 := by
  obtain ⟨v, w2, w3, fs, h1, h2, h3, h4, h5⟩ := p1_copy x1 x2 x3 x4 x5
  refine ⟨w3, ?_, h4, h5⟩
  refine rn_step rfl ?_
  refine rb_aload rfl ?_
  refine rb_aload rfl ?_
  refine rb_iload rfl ?_
  refine rb_push ?_
  refine rb_binL (z := 1) (by decide) ?_
  refine rb_xald (j := 1) (by decide) (x := x1) rfl ?_
  refine rb_aload rfl ?_
  refine rb_iload rfl ?_
  refine rb_push ?_
  refine rb_binL (z := 2) (by decide) ?_
  refine rb_xald (j := 1) (by decide) (x := x2) rfl ?_
  refine rb_aload rfl ?_
  refine rb_iload rfl ?_
  refine rb_push ?_
  refine rb_binL (z := 3) (by decide) ?_
  refine rb_xald (j := 1) (by decide) (x := x3) rfl ?_
  refine rb_aload rfl ?_
  refine rb_iload rfl ?_
  refine rb_push ?_
  refine rb_binL (z := 4) (by decide) ?_
  refine rb_xald (j := 1) (by decide) (x := x4) rfl ?_
  refine rb_aload rfl ?_
  refine rb_iload rfl ?_
  refine rb_push ?_
  refine rb_binL (z := 5) (by decide) ?_
  refine rb_xald (j := 1) (by decide) (x := x5) rfl ?_
  refine rb_callV5 (fs := _) rfl rfl h1 ?_
  refine rb_aload rfl ?_
  refine rb_aload rfl ?_
  refine rb_iload rfl ?_
  refine rb_push ?_
  refine rb_binL (z := 1) (by decide) ?_
  refine rb_xald (j := 1) (by decide) (x := x1) rfl ?_
  refine rb_aload rfl ?_
  refine rb_iload rfl ?_
  refine rb_push ?_
  refine rb_binL (z := 2) (by decide) ?_
  refine rb_xald (j := 1) (by decide) (x := x2) rfl ?_
  refine rb_aload rfl ?_
  refine rb_iload rfl ?_
  refine rb_push ?_
  refine rb_binL (z := 3) (by decide) ?_
  refine rb_xald (j := 1) (by decide) (x := x3) rfl ?_
  refine rb_aload rfl ?_
  refine rb_iload rfl ?_
  refine rb_push ?_
  refine rb_binL (z := 4) (by decide) ?_
  refine rb_xald (j := 1) (by decide) (x := x4) rfl ?_
  refine rb_aload rfl ?_
  refine rb_iload rfl ?_
  refine rb_push ?_
  refine rb_binL (z := 5) (by decide) ?_
  refine rb_xald (j := 1) (by decide) (x := x5) rfl ?_
  refine rb_callV5 h2 rfl h3 ?_
  refine rb_ceq (fun _ => ?_) (fun h => absurd rfl h)
  exact law_end rfl w3
theorem law_c35 (x0 x1 x2 x3 x4 x5 : Int32) : ∃ w', ab_run (bL_law [x0, x1, x2, x3, x4, x5] (EX FU 8)) 50 37 [some (.ref 1000001), some (.ref 0), some (.ref 68), some (.int 0)] [] (mkW s1) = some (some (.int 1), w') ∧ w'.length ≤ 600000 ∧ ab_tot w' ≤ 7302250 := by
  obtain ⟨v, w2, w3, fs, h1, h2, h3, h4, h5⟩ := p1_lay x1 x2 x3
  refine ⟨w3, ?_, h4, h5⟩
  refine rn_step rfl ?_
  refine rb_aload rfl ?_
  refine rb_aload rfl ?_
  refine rb_iload rfl ?_
  refine rb_push ?_
  refine rb_binL (z := 1) (by decide) ?_
  refine rb_xald (j := 1) (by decide) (x := x1) rfl ?_
  refine rb_aload rfl ?_
  refine rb_iload rfl ?_
  refine rb_push ?_
  refine rb_binL (z := 2) (by decide) ?_
  refine rb_xald (j := 1) (by decide) (x := x2) rfl ?_
  refine rb_aload rfl ?_
  refine rb_iload rfl ?_
  refine rb_push ?_
  refine rb_binL (z := 3) (by decide) ?_
  refine rb_xald (j := 1) (by decide) (x := x3) rfl ?_
  refine rb_callV3 (fs := _) rfl rfl h1 ?_
  refine rb_aload rfl ?_
  refine rb_aload rfl ?_
  refine rb_iload rfl ?_
  refine rb_push ?_
  refine rb_binL (z := 1) (by decide) ?_
  refine rb_xald (j := 1) (by decide) (x := x1) rfl ?_
  refine rb_aload rfl ?_
  refine rb_iload rfl ?_
  refine rb_push ?_
  refine rb_binL (z := 2) (by decide) ?_
  refine rb_xald (j := 1) (by decide) (x := x2) rfl ?_
  refine rb_aload rfl ?_
  refine rb_iload rfl ?_
  refine rb_push ?_
  refine rb_binL (z := 3) (by decide) ?_
  refine rb_xald (j := 1) (by decide) (x := x3) rfl ?_
  refine rb_callV3 h2 rfl h3 ?_
  refine rb_ceq (fun _ => ?_) (fun h => absurd rfl h)
  exact law_end rfl w3
theorem law_c36 (x0 x1 x2 x3 x4 x5 : Int32) : ∃ w', ab_run (bL_law [x0, x1, x2, x3, x4, x5] (EX FU 8)) 50 38 [some (.ref 1000001), some (.ref 0), some (.ref 68), some (.int 0)] [] (mkW s1) = some (some (.int 1), w') ∧ w'.length ≤ 600000 ∧ ab_tot w' ≤ 7302250 := by
  obtain ⟨v, w2, w3, fs, h1, h2, h3, h4, h5⟩ := p1_ask x1 x2
  refine ⟨w3, ?_, h4, h5⟩
  refine rn_step rfl ?_
  refine rb_aload rfl ?_
  refine rb_aload rfl ?_
  refine rb_iload rfl ?_
  refine rb_push ?_
  refine rb_binL (z := 1) (by decide) ?_
  refine rb_xald (j := 1) (by decide) (x := x1) rfl ?_
  refine rb_aload rfl ?_
  refine rb_iload rfl ?_
  refine rb_push ?_
  refine rb_binL (z := 2) (by decide) ?_
  refine rb_xald (j := 1) (by decide) (x := x2) rfl ?_
  refine rb_callV2 (fs := _) rfl rfl h1 ?_
  refine rb_aload rfl ?_
  refine rb_aload rfl ?_
  refine rb_iload rfl ?_
  refine rb_push ?_
  refine rb_binL (z := 1) (by decide) ?_
  refine rb_xald (j := 1) (by decide) (x := x1) rfl ?_
  refine rb_aload rfl ?_
  refine rb_iload rfl ?_
  refine rb_push ?_
  refine rb_binL (z := 2) (by decide) ?_
  refine rb_xald (j := 1) (by decide) (x := x2) rfl ?_
  refine rb_callV2 h2 rfl h3 ?_
  refine rb_ceq (fun _ => ?_) (fun h => absurd rfl h)
  exact law_end rfl w3
theorem law_c37 (x0 x1 x2 x3 x4 x5 : Int32) : ∃ w', ab_run (bL_law [x0, x1, x2, x3, x4, x5] (EX FU 8)) 50 39 [some (.ref 1000001), some (.ref 0), some (.ref 68), some (.int 0)] [] (mkW s1) = some (some (.int 1), w') ∧ w'.length ≤ 600000 ∧ ab_tot w' ≤ 7302250 := by
  obtain ⟨v, w2, w3, fs, h1, h2, h3, h4, h5⟩ := p1_item x1 x2
  refine ⟨w3, ?_, h4, h5⟩
  refine rn_step rfl ?_
  refine rb_aload rfl ?_
  refine rb_aload rfl ?_
  refine rb_iload rfl ?_
  refine rb_push ?_
  refine rb_binL (z := 1) (by decide) ?_
  refine rb_xald (j := 1) (by decide) (x := x1) rfl ?_
  refine rb_aload rfl ?_
  refine rb_iload rfl ?_
  refine rb_push ?_
  refine rb_binL (z := 2) (by decide) ?_
  refine rb_xald (j := 1) (by decide) (x := x2) rfl ?_
  refine rb_callV2 (fs := _) rfl rfl h1 ?_
  refine rb_aload rfl ?_
  refine rb_aload rfl ?_
  refine rb_iload rfl ?_
  refine rb_push ?_
  refine rb_binL (z := 1) (by decide) ?_
  refine rb_xald (j := 1) (by decide) (x := x1) rfl ?_
  refine rb_aload rfl ?_
  refine rb_iload rfl ?_
  refine rb_push ?_
  refine rb_binL (z := 2) (by decide) ?_
  refine rb_xald (j := 1) (by decide) (x := x2) rfl ?_
  refine rb_callV2 h2 rfl h3 ?_
  refine rb_ceq (fun _ => ?_) (fun h => absurd rfl h)
  exact law_end rfl w3
theorem law_c38 (x0 x1 x2 x3 x4 x5 : Int32) : ∃ w', ab_run (bL_law [x0, x1, x2, x3, x4, x5] (EX FU 8)) 50 40 [some (.ref 1000001), some (.ref 0), some (.ref 68), some (.int 0)] [] (mkW s1) = some (some (.int 1), w') ∧ w'.length ≤ 600000 ∧ ab_tot w' ≤ 7302250 := by
  obtain ⟨v, w2, w3, fs, h1, h2, h3, h4, h5⟩ := p1_rest x1 x2
  refine ⟨w3, ?_, h4, h5⟩
  refine rn_step rfl ?_
  refine rb_aload rfl ?_
  refine rb_aload rfl ?_
  refine rb_iload rfl ?_
  refine rb_push ?_
  refine rb_binL (z := 1) (by decide) ?_
  refine rb_xald (j := 1) (by decide) (x := x1) rfl ?_
  refine rb_aload rfl ?_
  refine rb_iload rfl ?_
  refine rb_push ?_
  refine rb_binL (z := 2) (by decide) ?_
  refine rb_xald (j := 1) (by decide) (x := x2) rfl ?_
  refine rb_callV2 (fs := _) rfl rfl h1 ?_
  refine rb_aload rfl ?_
  refine rb_aload rfl ?_
  refine rb_iload rfl ?_
  refine rb_push ?_
  refine rb_binL (z := 1) (by decide) ?_
  refine rb_xald (j := 1) (by decide) (x := x1) rfl ?_
  refine rb_aload rfl ?_
  refine rb_iload rfl ?_
  refine rb_push ?_
  refine rb_binL (z := 2) (by decide) ?_
  refine rb_xald (j := 1) (by decide) (x := x2) rfl ?_
  refine rb_callV2 h2 rfl h3 ?_
  refine rb_ceq (fun _ => ?_) (fun h => absurd rfl h)
  exact law_end rfl w3
theorem law_c39 (x0 x1 x2 x3 x4 x5 : Int32) : ∃ w', ab_run (bL_law [x0, x1, x2, x3, x4, x5] (EX FU 8)) 50 41 [some (.ref 1000001), some (.ref 0), some (.ref 68), some (.int 0)] [] (mkW s1) = some (some (.int 1), w') ∧ w'.length ≤ 600000 ∧ ab_tot w' ≤ 7302250 := by
  obtain ⟨v, w2, w3, fs, h1, h2, h3, h4, h5⟩ := p1_tell x1
  refine ⟨w3, ?_, h4, h5⟩
  refine rn_step rfl ?_
  refine rb_aload rfl ?_
  refine rb_aload rfl ?_
  refine rb_iload rfl ?_
  refine rb_push ?_
  refine rb_binL (z := 1) (by decide) ?_
  refine rb_xald (j := 1) (by decide) (x := x1) rfl ?_
  refine rb_callV1 (fs := _) rfl rfl h1 ?_
  refine rb_aload rfl ?_
  refine rb_aload rfl ?_
  refine rb_iload rfl ?_
  refine rb_push ?_
  refine rb_binL (z := 1) (by decide) ?_
  refine rb_xald (j := 1) (by decide) (x := x1) rfl ?_
  refine rb_callV1 h2 rfl h3 ?_
  refine rb_ceq (fun _ => ?_) (fun h => absurd rfl h)
  exact law_end rfl w3
theorem law_c40 (x0 x1 x2 x3 x4 x5 : Int32) : ∃ w', ab_run (bL_law [x0, x1, x2, x3, x4, x5] (EX FU 8)) 50 42 [some (.ref 1000001), some (.ref 0), some (.ref 68), some (.int 0)] [] (mkW s1) = some (some (.int 1), w') ∧ w'.length ≤ 600000 ∧ ab_tot w' ≤ 7302250 := by
  obtain ⟨v, w2, w3, fs, h1, h2, h3, h4, h5⟩ := p1_check x1
  refine ⟨w3, ?_, h4, h5⟩
  refine rn_step rfl ?_
  refine rb_aload rfl ?_
  refine rb_aload rfl ?_
  refine rb_iload rfl ?_
  refine rb_push ?_
  refine rb_binL (z := 1) (by decide) ?_
  refine rb_xald (j := 1) (by decide) (x := x1) rfl ?_
  refine rb_callV1 (fs := _) rfl rfl h1 ?_
  refine rb_aload rfl ?_
  refine rb_aload rfl ?_
  refine rb_iload rfl ?_
  refine rb_push ?_
  refine rb_binL (z := 1) (by decide) ?_
  refine rb_xald (j := 1) (by decide) (x := x1) rfl ?_
  refine rb_callV1 h2 rfl h3 ?_
  refine rb_ceq (fun _ => ?_) (fun h => absurd rfl h)
  exact law_end rfl w3
theorem law_c41 (x0 x1 x2 x3 x4 x5 : Int32) : ∃ w', ab_run (bL_law [x0, x1, x2, x3, x4, x5] (EX FU 8)) 50 43 [some (.ref 1000001), some (.ref 0), some (.ref 68), some (.int 0)] [] (mkW s1) = some (some (.int 1), w') ∧ w'.length ≤ 600000 ∧ ab_tot w' ≤ 7302250 := by
  obtain ⟨v, w2, w3, fs, h1, h2, h3, h4, h5⟩ := p1_keep 
  refine ⟨w3, ?_, h4, h5⟩
  refine rn_step rfl ?_
  refine rb_aload rfl ?_
  refine rb_callV0 (fs := _) rfl rfl h1 ?_
  refine rb_aload rfl ?_
  refine rb_callV0 h2 rfl h3 ?_
  refine rb_ceq (fun _ => ?_) (fun h => absurd rfl h)
  exact law_end rfl w3
theorem law_c42 (x0 x1 x2 x3 x4 x5 : Int32) : ∃ w', ab_run (bL_law [x0, x1, x2, x3, x4, x5] (EX FU 8)) 50 44 [some (.ref 1000001), some (.ref 0), some (.ref 68), some (.int 0)] [] (mkW s1) = some (some (.int 1), w') ∧ w'.length ≤ 600000 ∧ ab_tot w' ≤ 7302250 := by
  obtain ⟨v, w2, w3, fs, h1, h2, h3, h4, h5⟩ := p1_back 
  refine ⟨w3, ?_, h4, h5⟩
  refine rn_step rfl ?_
  refine rb_aload rfl ?_
  refine rb_callV0 (fs := _) rfl rfl h1 ?_
  refine rb_aload rfl ?_
  refine rb_callV0 h2 rfl h3 ?_
  refine rb_ceq (fun _ => ?_) (fun h => absurd rfl h)
  exact law_end rfl w3
theorem law_c43 (x0 x1 x2 x3 x4 x5 : Int32) : ∃ w', ab_run (bL_law [x0, x1, x2, x3, x4, x5] (EX FU 8)) 50 45 [some (.ref 1000001), some (.ref 0), some (.ref 68), some (.int 0)] [] (mkW s1) = some (some (.int 1), w') ∧ w'.length ≤ 600000 ∧ ab_tot w' ≤ 7302250 := by
  obtain ⟨v, w2, w3, fs, h1, h2, h3, h4, h5⟩ := p1_count x1
  refine ⟨w3, ?_, h4, h5⟩
  refine rn_step rfl ?_
  refine rb_aload rfl ?_
  refine rb_aload rfl ?_
  refine rb_iload rfl ?_
  refine rb_push ?_
  refine rb_binL (z := 1) (by decide) ?_
  refine rb_xald (j := 1) (by decide) (x := x1) rfl ?_
  refine rb_callV1 (fs := _) rfl rfl h1 ?_
  refine rb_aload rfl ?_
  refine rb_aload rfl ?_
  refine rb_iload rfl ?_
  refine rb_push ?_
  refine rb_binL (z := 1) (by decide) ?_
  refine rb_xald (j := 1) (by decide) (x := x1) rfl ?_
  refine rb_callV1 h2 rfl h3 ?_
  refine rb_ceq (fun _ => ?_) (fun h => absurd rfl h)
  exact law_end rfl w3
theorem law_sw (x0 x1 x2 x3 x4 x5 : Int32) : ∃ w', ab_run (bL_law [x0, x1, x2, x3, x4, x5] (EX FU 8)) 50 (ab_tsw 0 [2, 3, 4, 5, 6, 7, 8, 9, 10, 11, 12, 13, 14, 15, 16, 17, 18, 19, 20, 21, 22, 23, 24, 25, 26, 27, 28, 29, 30, 31, 32, 33, 34, 35, 36, 37, 38, 39, 40, 41, 42, 43, 44, 45] 46 (x0 &&& 63)) [some (.ref 1000001), some (.ref 0), some (.ref 68), some (.int 0)] [] (mkW s1) = some (some (.int 1), w') ∧ w'.length ≤ 600000 ∧ ab_tot w' ≤ 7302250 := by
  obtain ⟨j, hj, e⟩ := pk_andE x0 (m := 63) 6 (by decide)
  rw [e]
  have hj : j < 64 := hj
  by_cases h44 : j < 44
  · match j, h44 with
    | 0, _ => exact law_c0 x0 x1 x2 x3 x4 x5
    | 1, _ => exact law_c1 x0 x1 x2 x3 x4 x5
    | 2, _ => exact law_c2 x0 x1 x2 x3 x4 x5
    | 3, _ => exact law_c3 x0 x1 x2 x3 x4 x5
    | 4, _ => exact law_c4 x0 x1 x2 x3 x4 x5
    | 5, _ => exact law_c5 x0 x1 x2 x3 x4 x5
    | 6, _ => exact law_c6 x0 x1 x2 x3 x4 x5
    | 7, _ => exact law_c7 x0 x1 x2 x3 x4 x5
    | 8, _ => exact law_c8 x0 x1 x2 x3 x4 x5
    | 9, _ => exact law_c9 x0 x1 x2 x3 x4 x5
    | 10, _ => exact law_c10 x0 x1 x2 x3 x4 x5
    | 11, _ => exact law_c11 x0 x1 x2 x3 x4 x5
    | 12, _ => exact law_c12 x0 x1 x2 x3 x4 x5
    | 13, _ => exact law_c13 x0 x1 x2 x3 x4 x5
    | 14, _ => exact law_c14 x0 x1 x2 x3 x4 x5
    | 15, _ => exact law_c15 x0 x1 x2 x3 x4 x5
    | 16, _ => exact law_c16 x0 x1 x2 x3 x4 x5
    | 17, _ => exact law_c17 x0 x1 x2 x3 x4 x5
    | 18, _ => exact law_c18 x0 x1 x2 x3 x4 x5
    | 19, _ => exact law_c19 x0 x1 x2 x3 x4 x5
    | 20, _ => exact law_c20 x0 x1 x2 x3 x4 x5
    | 21, _ => exact law_c21 x0 x1 x2 x3 x4 x5
    | 22, _ => exact law_c22 x0 x1 x2 x3 x4 x5
    | 23, _ => exact law_c23 x0 x1 x2 x3 x4 x5
    | 24, _ => exact law_c24 x0 x1 x2 x3 x4 x5
    | 25, _ => exact law_c25 x0 x1 x2 x3 x4 x5
    | 26, _ => exact law_c26 x0 x1 x2 x3 x4 x5
    | 27, _ => exact law_c27 x0 x1 x2 x3 x4 x5
    | 28, _ => exact law_c28 x0 x1 x2 x3 x4 x5
    | 29, _ => exact law_c29 x0 x1 x2 x3 x4 x5
    | 30, _ => exact law_c30 x0 x1 x2 x3 x4 x5
    | 31, _ => exact law_c31 x0 x1 x2 x3 x4 x5
    | 32, _ => exact law_c32 x0 x1 x2 x3 x4 x5
    | 33, _ => exact law_c33 x0 x1 x2 x3 x4 x5
    | 34, _ => exact law_c34 x0 x1 x2 x3 x4 x5
    | 35, _ => exact law_c35 x0 x1 x2 x3 x4 x5
    | 36, _ => exact law_c36 x0 x1 x2 x3 x4 x5
    | 37, _ => exact law_c37 x0 x1 x2 x3 x4 x5
    | 38, _ => exact law_c38 x0 x1 x2 x3 x4 x5
    | 39, _ => exact law_c39 x0 x1 x2 x3 x4 x5
    | 40, _ => exact law_c40 x0 x1 x2 x3 x4 x5
    | 41, _ => exact law_c41 x0 x1 x2 x3 x4 x5
    | 42, _ => exact law_c42 x0 x1 x2 x3 x4 x5
    | 43, _ => exact law_c43 x0 x1 x2 x3 x4 x5
    | j + 44, h => omega
  · have e2 : ab_tsw 0 [2, 3, 4, 5, 6, 7, 8, 9, 10, 11, 12, 13, 14, 15, 16, 17, 18, 19, 20, 21, 22, 23, 24, 25, 26, 27, 28, 29, 30, 31, 32, 33, 34, 35, 36, 37, 38, 39, 40, 41, 42, 43, 44, 45] 46 (nI j) = 46 := tsw_hi (L := j) (by rw [nI_toInt (by omega)]; exact Int.le_refl _) (by show (0 : Int) + 44 ≤ (j : Int); omega)
    rw [e2]
    exact ⟨mkW s1, law_end rfl _, p1_len s1_ok rfl, p1_tot s1_ok rfl⟩
theorem law_all (xs : List Int32) (hx : xs.length ≤ 6) : ab_law xs := by
  by_cases h6 : xs.length = 6
  · match xs, h6 with
    | [x0, x1, x2, x3, x4, x5], h6 =>
      obtain ⟨w', h1, h2, h3⟩ := law_sw x0 x1 x2 x3 x4 x5
      refine ⟨FU, 8, 52, w', by decide, ?_, h2, h3⟩
      refine rn_step rfl ?_
      show Rb _ _ _ [some (.ref 1000001), none, none, none] [] [] _
      unfold Rb
      rw [law_init, lock_eq]
      show ab_run _ 51 1 _ _ _ = _
      refine rn_step rfl ?_
      refine rb_iload rfl ?_
      refine rb_aload rfl ?_
      refine rb_xlen (j := 1) ?_
      refine rb_push ?_
      refine rb_binL (z := 0) (by rw [h6]; decide) ?_
      refine rb_cgt (fun h => absurd h (by decide)) (fun _ => ?_)
      refine rb_aload rfl ?_
      refine rb_iload rfl ?_
      refine rb_xald (j := 1) (by decide) (x := x0) rfl ?_
      refine rb_push ?_
      refine rb_and ?_
      exact rb_sw h1
  · have hl : xs.length < 6 := by omega
    refine ⟨FU, 8, 52, mkW s1, by decide, ?_, p1_len s1_ok rfl, p1_tot s1_ok rfl⟩
    refine rn_step rfl ?_
    show Rb _ _ _ [some (.ref 1000001), none, none, none] [] [] _
    unfold Rb
    rw [law_init, lock_eq]
    show ab_run _ 51 1 _ _ _ = _
    refine rn_step rfl ?_
    refine rb_iload rfl ?_
    refine rb_aload rfl ?_
    refine rb_xlen (j := 1) ?_
    refine rb_push ?_
    refine rb_sub ?_
    have hlt : Int32.ofNat xs.length - 6 < 0 := by
      have h := (by decide : ∀ n : Nat, n < 6 → Int32.ofNat n - 6 < 0)
      exact h _ hl
    refine rb_cgt (fun _ => ?_) (fun h => absurd hlt h)
    refine rn_step rfl ?_
    refine rb_push ?_
    exact rb_ret rfl rfl

