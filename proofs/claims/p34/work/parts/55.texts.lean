set_option maxRecDepth 100000 in
set_option maxHeartbeats 4000000 in
theorem c_X6_truth {d : Nat} {t : TS} {x : Int}  (ok : OK t) (q0 : -2147483648 ≤ x) (q1 : x ≤ 2147483647) : CI (EX FU (d + 1)) 66 [.int (jI x)] (mk t) (fun z t' => t = t' ∧ ((x = 0 ∧ z = 0) ∨ (¬ x = 0 ∧ z = 1))) := by
  refine CI_ent (d := d + 0) (Bk := bX6_truth) (nL := 1) rfl rfl rfl (Nat.le_of_ble_eq_true rfl) ?_
  show Rn _ 1000000 0 [some (.int (jI x))] [] _ _
  refine w_step rfl ?_
  refine w_iload rfl ?_
  refine w_ieq (by omega) (fun h1 => ?_) (fun h1 => ?_)
  · skip
    refine w_step rfl ?_
    refine w_push kc_0 ?_
    refine w_goto ?_
    refine w_step rfl ?_
    refine w_retI rfl ?_
    exact ⟨rfl, (by omega)⟩
  refine w_push kc_1 ?_
  refine w_goto ?_
  refine w_step rfl ?_
  refine w_retI rfl ?_
  exact ⟨rfl, (by omega)⟩
set_option maxRecDepth 100000 in
set_option maxHeartbeats 4000000 in
theorem c_X6_named {d : Nat} {t : TS} {n p q r : Int}  (ok : OK t) (q0 : -2147483648 ≤ n) (q1 : n ≤ 2147483647) (q2 : -2147483648 ≤ p) (q3 : p ≤ 2147483647) (q4 : -2147483648 ≤ q) (q5 : q ≤ 2147483647) (q6 : -2147483648 ≤ r) (q7 : r ≤ 2147483647) : CI (EX FU (d + 1)) 64 [.int (jI n), .int (jI p), .int (jI q), .int (jI r)] (mk t) (fun z t' => t = t' ∧ (-2147483648 ≤ z) ∧ (z ≤ 2147483647)) := by
  refine CI_ent (d := d + 0) (Bk := bX6_named) (nL := 4) rfl rfl rfl (Nat.le_of_ble_eq_true rfl) ?_
  show Rn _ 1000000 0 [some (.int (jI n)), some (.int (jI p)), some (.int (jI q)), some (.int (jI r))] [] _ _
  refine w_step rfl ?_
  refine w_iload rfl ?_
  refine w_ine (by omega) (fun h1 => ?_) (fun h1 => ?_)
  · skip
    refine w_step rfl ?_
    refine w_iload rfl ?_
    refine w_push kc_1 ?_
    refine w_cne (by omega) (fun h2 => ?_) (fun h2 => ?_)
    · skip
      refine w_step rfl ?_
      refine w_iload rfl ?_
      refine w_goto ?_
      refine w_step rfl ?_
      refine w_retI rfl ?_
      exact ⟨rfl, (by omega), (by omega)⟩
    refine w_iload rfl ?_
    refine w_goto ?_
    refine w_step rfl ?_
    refine w_retI rfl ?_
    exact ⟨rfl, (by omega), (by omega)⟩
  refine w_iload rfl ?_
  refine w_goto ?_
  refine w_step rfl ?_
  refine w_retI rfl ?_
  exact ⟨rfl, (by omega), (by omega)⟩
set_option maxRecDepth 100000 in
set_option maxHeartbeats 4000000 in
theorem c_X6_joined {d : Nat} {t : TS} {s x y : Int}  (ok : OK t) (q0 : -2147483648 ≤ s) (q1 : s ≤ 2147483647) (q2 : -2147483648 ≤ x) (q3 : x ≤ 2147483647) (q4 : -2147483648 ≤ y) (q5 : y ≤ 2147483647) : CI (EX FU (d + 2)) 65 [.int (jI s), .int (jI x), .int (jI y)] (mk t) (fun z t' => t = t' ∧ (-2147483648 ≤ z) ∧ (z ≤ 2147483647)) := by
  refine CI_ent (d := d + 1) (Bk := bX6_joined) (nL := 3) rfl rfl rfl (Nat.le_of_ble_eq_true rfl) ?_
  show Rn _ 1000000 0 [some (.int (jI s)), some (.int (jI x)), some (.int (jI y))] [] _ _
  refine w_step rfl ?_
  refine w_iload rfl ?_
  have hs1 : s = 38 ∨ s = 42 ∨ s = 43 ∨ s = 45 ∨ s = 47 ∨ s = 60 ∨ s = 61 ∨ s = 62 ∨ s = 39 ∨ s = 40 ∨ s = 41 ∨ s = 44 ∨ s = 46 ∨ s = 48 ∨ s = 49 ∨ s = 50 ∨ s = 51 ∨ s = 52 ∨ s = 53 ∨ s = 54 ∨ s = 55 ∨ s = 56 ∨ s = 57 ∨ s = 58 ∨ s = 59 ∨ (s < 38 ∨ 38 + 25 ≤ s) := (by omega)
  rcases hs1 with hs1 | hs1 | hs1 | hs1 | hs1 | hs1 | hs1 | hs1 | hs1 | hs1 | hs1 | hs1 | hs1 | hs1 | hs1 | hs1 | hs1 | hs1 | hs1 | hs1 | hs1 | hs1 | hs1 | hs1 | hs1 | hs1
  · refine w_sw (n := 16) (tsw_at hs1 (by decide)) ?_
    refine w_step rfl ?_
    refine w_iload rfl ?_
    refine w_ieq (by omega) (fun h2 => ?_) (fun h2 => ?_)
    · skip
      refine w_step rfl ?_
      refine w_push kc_0 ?_
      refine w_goto ?_
      refine w_step rfl ?_
      refine w_callS1I rfl (c_X6_truth ok (by omega) (by omega)) ?_
      rintro z3 t3 ⟨rfl, hp3_0⟩
      refine w_retI rfl ?_
      exact ⟨rfl, (by omega), (by omega)⟩
    refine w_iload rfl ?_
    refine w_ieq (by omega) (fun h4 => ?_) (fun h4 => ?_)
    · skip
      refine w_step rfl ?_
      refine w_push kc_0 ?_
      refine w_goto ?_
      refine w_step rfl ?_
      refine w_callS1I rfl (c_X6_truth ok (by omega) (by omega)) ?_
      rintro z5 t5 ⟨rfl, hp5_0⟩
      refine w_retI rfl ?_
      exact ⟨rfl, (by omega), (by omega)⟩
    refine w_push kc_1 ?_
    refine w_goto ?_
    refine w_step rfl ?_
    refine w_callS1I rfl (c_X6_truth ok (by omega) (by omega)) ?_
    rintro z6 t6 ⟨rfl, hp6_0⟩
    refine w_retI rfl ?_
    exact ⟨rfl, (by omega), (by omega)⟩
  · refine w_sw (n := 3) (tsw_at hs1 (by decide)) ?_
    refine w_step rfl ?_
    refine w_iload rfl ?_
    refine w_iload rfl ?_
    refine w_mulW (fun z7 hz7 hl7 hh7 => ?_)
    refine w_retI rfl ?_
    exact ⟨rfl, (by omega), (by omega)⟩
  · refine w_sw (n := 1) (tsw_at hs1 (by decide)) ?_
    refine w_step rfl ?_
    refine w_iload rfl ?_
    refine w_iload rfl ?_
    refine w_addW (fun z8 hz8 hl8 hh8 => ?_)
    refine w_retI rfl ?_
    exact ⟨rfl, (by omega), (by omega)⟩
  · refine w_sw (n := 2) (tsw_at hs1 (by decide)) ?_
    refine w_step rfl ?_
    refine w_iload rfl ?_
    refine w_iload rfl ?_
    refine w_subW (fun z9 hz9 hl9 hh9 => ?_)
    refine w_retI rfl ?_
    exact ⟨rfl, (by omega), (by omega)⟩
  · refine w_sw (n := 4) (tsw_at hs1 (by decide)) ?_
    refine w_step rfl ?_
    refine w_iload rfl ?_
    refine w_ine (by omega) (fun h10 => ?_) (fun h10 => ?_)
    · skip
      refine w_step rfl ?_
      refine w_iload rfl ?_
      refine w_iload rfl ?_
      refine w_divG (by omega) (fun z11 hz11 hl11 hh11 => ?_)
      refine w_goto ?_
      refine w_step rfl ?_
      refine w_retI rfl ?_
      exact ⟨rfl, (by omega), (by omega)⟩
    refine w_push kc_0 ?_
    refine w_goto ?_
    refine w_step rfl ?_
    refine w_retI rfl ?_
    exact ⟨rfl, (by omega), (by omega)⟩
  · refine w_sw (n := 7) (tsw_at hs1 (by decide)) ?_
    refine w_step rfl ?_
    refine w_iload rfl ?_
    refine w_iload rfl ?_
    refine w_cge (by omega) (fun h12 => ?_) (fun h12 => ?_)
    · skip
      refine w_step rfl ?_
      refine w_push kc_0 ?_
      refine w_goto ?_
      refine w_step rfl ?_
      refine w_callS1I rfl (c_X6_truth ok (by omega) (by omega)) ?_
      rintro z13 t13 ⟨rfl, hp13_0⟩
      refine w_retI rfl ?_
      exact ⟨rfl, (by omega), (by omega)⟩
    refine w_push kc_1 ?_
    refine w_goto ?_
    refine w_step rfl ?_
    refine w_callS1I rfl (c_X6_truth ok (by omega) (by omega)) ?_
    rintro z14 t14 ⟨rfl, hp14_0⟩
    refine w_retI rfl ?_
    exact ⟨rfl, (by omega), (by omega)⟩
  · refine w_sw (n := 10) (tsw_at hs1 (by decide)) ?_
    refine w_step rfl ?_
    refine w_iload rfl ?_
    refine w_iload rfl ?_
    refine w_cne (by omega) (fun h15 => ?_) (fun h15 => ?_)
    · skip
      refine w_step rfl ?_
      refine w_push kc_0 ?_
      refine w_goto ?_
      refine w_step rfl ?_
      refine w_callS1I rfl (c_X6_truth ok (by omega) (by omega)) ?_
      rintro z16 t16 ⟨rfl, hp16_0⟩
      refine w_retI rfl ?_
      exact ⟨rfl, (by omega), (by omega)⟩
    refine w_push kc_1 ?_
    refine w_goto ?_
    refine w_step rfl ?_
    refine w_callS1I rfl (c_X6_truth ok (by omega) (by omega)) ?_
    rintro z17 t17 ⟨rfl, hp17_0⟩
    refine w_retI rfl ?_
    exact ⟨rfl, (by omega), (by omega)⟩
  · refine w_sw (n := 13) (tsw_at hs1 (by decide)) ?_
    refine w_step rfl ?_
    refine w_iload rfl ?_
    refine w_iload rfl ?_
    refine w_cle (by omega) (fun h18 => ?_) (fun h18 => ?_)
    · skip
      refine w_step rfl ?_
      refine w_push kc_0 ?_
      refine w_goto ?_
      refine w_step rfl ?_
      refine w_callS1I rfl (c_X6_truth ok (by omega) (by omega)) ?_
      rintro z19 t19 ⟨rfl, hp19_0⟩
      refine w_retI rfl ?_
      exact ⟨rfl, (by omega), (by omega)⟩
    refine w_push kc_1 ?_
    refine w_goto ?_
    refine w_step rfl ?_
    refine w_callS1I rfl (c_X6_truth ok (by omega) (by omega)) ?_
    rintro z20 t20 ⟨rfl, hp20_0⟩
    refine w_retI rfl ?_
    exact ⟨rfl, (by omega), (by omega)⟩
  · refine w_sw (n := 19) (tsw_at hs1 (by decide)) ?_
    refine w_step rfl ?_
    refine w_iload rfl ?_
    refine w_ine (by omega) (fun h21 => ?_) (fun h21 => ?_)
    · skip
      refine w_step rfl ?_
      refine w_push kc_1 ?_
      refine w_goto ?_
      refine w_step rfl ?_
      refine w_callS1I rfl (c_X6_truth ok (by omega) (by omega)) ?_
      rintro z22 t22 ⟨rfl, hp22_0⟩
      refine w_retI rfl ?_
      exact ⟨rfl, (by omega), (by omega)⟩
    refine w_iload rfl ?_
    refine w_ieq (by omega) (fun h23 => ?_) (fun h23 => ?_)
    · skip
      refine w_step rfl ?_
      refine w_push kc_0 ?_
      refine w_goto ?_
      refine w_step rfl ?_
      refine w_callS1I rfl (c_X6_truth ok (by omega) (by omega)) ?_
      rintro z24 t24 ⟨rfl, hp24_0⟩
      refine w_retI rfl ?_
      exact ⟨rfl, (by omega), (by omega)⟩
    refine w_goto ?_
    refine w_step rfl ?_
    refine w_push kc_1 ?_
    refine w_goto ?_
    refine w_step rfl ?_
    refine w_callS1I rfl (c_X6_truth ok (by omega) (by omega)) ?_
    rintro z25 t25 ⟨rfl, hp25_0⟩
    refine w_retI rfl ?_
    exact ⟨rfl, (by omega), (by omega)⟩
  · refine w_sw (n := 19) (tsw_at hs1 (by decide)) ?_
    refine w_step rfl ?_
    refine w_iload rfl ?_
    refine w_ine (by omega) (fun h26 => ?_) (fun h26 => ?_)
    · skip
      refine w_step rfl ?_
      refine w_push kc_1 ?_
      refine w_goto ?_
      refine w_step rfl ?_
      refine w_callS1I rfl (c_X6_truth ok (by omega) (by omega)) ?_
      rintro z27 t27 ⟨rfl, hp27_0⟩
      refine w_retI rfl ?_
      exact ⟨rfl, (by omega), (by omega)⟩
    refine w_iload rfl ?_
    refine w_ieq (by omega) (fun h28 => ?_) (fun h28 => ?_)
    · skip
      refine w_step rfl ?_
      refine w_push kc_0 ?_
      refine w_goto ?_
      refine w_step rfl ?_
      refine w_callS1I rfl (c_X6_truth ok (by omega) (by omega)) ?_
      rintro z29 t29 ⟨rfl, hp29_0⟩
      refine w_retI rfl ?_
      exact ⟨rfl, (by omega), (by omega)⟩
    refine w_goto ?_
    refine w_step rfl ?_
    refine w_push kc_1 ?_
    refine w_goto ?_
    refine w_step rfl ?_
    refine w_callS1I rfl (c_X6_truth ok (by omega) (by omega)) ?_
    rintro z30 t30 ⟨rfl, hp30_0⟩
    refine w_retI rfl ?_
    exact ⟨rfl, (by omega), (by omega)⟩
  · refine w_sw (n := 19) (tsw_at hs1 (by decide)) ?_
    refine w_step rfl ?_
    refine w_iload rfl ?_
    refine w_ine (by omega) (fun h31 => ?_) (fun h31 => ?_)
    · skip
      refine w_step rfl ?_
      refine w_push kc_1 ?_
      refine w_goto ?_
      refine w_step rfl ?_
      refine w_callS1I rfl (c_X6_truth ok (by omega) (by omega)) ?_
      rintro z32 t32 ⟨rfl, hp32_0⟩
      refine w_retI rfl ?_
      exact ⟨rfl, (by omega), (by omega)⟩
    refine w_iload rfl ?_
    refine w_ieq (by omega) (fun h33 => ?_) (fun h33 => ?_)
    · skip
      refine w_step rfl ?_
      refine w_push kc_0 ?_
      refine w_goto ?_
      refine w_step rfl ?_
      refine w_callS1I rfl (c_X6_truth ok (by omega) (by omega)) ?_
      rintro z34 t34 ⟨rfl, hp34_0⟩
      refine w_retI rfl ?_
      exact ⟨rfl, (by omega), (by omega)⟩
    refine w_goto ?_
    refine w_step rfl ?_
    refine w_push kc_1 ?_
    refine w_goto ?_
    refine w_step rfl ?_
    refine w_callS1I rfl (c_X6_truth ok (by omega) (by omega)) ?_
    rintro z35 t35 ⟨rfl, hp35_0⟩
    refine w_retI rfl ?_
    exact ⟨rfl, (by omega), (by omega)⟩
  · refine w_sw (n := 19) (tsw_at hs1 (by decide)) ?_
    refine w_step rfl ?_
    refine w_iload rfl ?_
    refine w_ine (by omega) (fun h36 => ?_) (fun h36 => ?_)
    · skip
      refine w_step rfl ?_
      refine w_push kc_1 ?_
      refine w_goto ?_
      refine w_step rfl ?_
      refine w_callS1I rfl (c_X6_truth ok (by omega) (by omega)) ?_
      rintro z37 t37 ⟨rfl, hp37_0⟩
      refine w_retI rfl ?_
      exact ⟨rfl, (by omega), (by omega)⟩
    refine w_iload rfl ?_
    refine w_ieq (by omega) (fun h38 => ?_) (fun h38 => ?_)
    · skip
      refine w_step rfl ?_
      refine w_push kc_0 ?_
      refine w_goto ?_
      refine w_step rfl ?_
      refine w_callS1I rfl (c_X6_truth ok (by omega) (by omega)) ?_
      rintro z39 t39 ⟨rfl, hp39_0⟩
      refine w_retI rfl ?_
      exact ⟨rfl, (by omega), (by omega)⟩
    refine w_goto ?_
    refine w_step rfl ?_
    refine w_push kc_1 ?_
    refine w_goto ?_
    refine w_step rfl ?_
    refine w_callS1I rfl (c_X6_truth ok (by omega) (by omega)) ?_
    rintro z40 t40 ⟨rfl, hp40_0⟩
    refine w_retI rfl ?_
    exact ⟨rfl, (by omega), (by omega)⟩
  · refine w_sw (n := 19) (tsw_at hs1 (by decide)) ?_
    refine w_step rfl ?_
    refine w_iload rfl ?_
    refine w_ine (by omega) (fun h41 => ?_) (fun h41 => ?_)
    · skip
      refine w_step rfl ?_
      refine w_push kc_1 ?_
      refine w_goto ?_
      refine w_step rfl ?_
      refine w_callS1I rfl (c_X6_truth ok (by omega) (by omega)) ?_
      rintro z42 t42 ⟨rfl, hp42_0⟩
      refine w_retI rfl ?_
      exact ⟨rfl, (by omega), (by omega)⟩
    refine w_iload rfl ?_
    refine w_ieq (by omega) (fun h43 => ?_) (fun h43 => ?_)
    · skip
      refine w_step rfl ?_
      refine w_push kc_0 ?_
      refine w_goto ?_
      refine w_step rfl ?_
      refine w_callS1I rfl (c_X6_truth ok (by omega) (by omega)) ?_
      rintro z44 t44 ⟨rfl, hp44_0⟩
      refine w_retI rfl ?_
      exact ⟨rfl, (by omega), (by omega)⟩
    refine w_goto ?_
    refine w_step rfl ?_
    refine w_push kc_1 ?_
    refine w_goto ?_
    refine w_step rfl ?_
    refine w_callS1I rfl (c_X6_truth ok (by omega) (by omega)) ?_
    rintro z45 t45 ⟨rfl, hp45_0⟩
    refine w_retI rfl ?_
    exact ⟨rfl, (by omega), (by omega)⟩
  · refine w_sw (n := 19) (tsw_at hs1 (by decide)) ?_
    refine w_step rfl ?_
    refine w_iload rfl ?_
    refine w_ine (by omega) (fun h46 => ?_) (fun h46 => ?_)
    · skip
      refine w_step rfl ?_
      refine w_push kc_1 ?_
      refine w_goto ?_
      refine w_step rfl ?_
      refine w_callS1I rfl (c_X6_truth ok (by omega) (by omega)) ?_
      rintro z47 t47 ⟨rfl, hp47_0⟩
      refine w_retI rfl ?_
      exact ⟨rfl, (by omega), (by omega)⟩
    refine w_iload rfl ?_
    refine w_ieq (by omega) (fun h48 => ?_) (fun h48 => ?_)
    · skip
      refine w_step rfl ?_
      refine w_push kc_0 ?_
      refine w_goto ?_
      refine w_step rfl ?_
      refine w_callS1I rfl (c_X6_truth ok (by omega) (by omega)) ?_
      rintro z49 t49 ⟨rfl, hp49_0⟩
      refine w_retI rfl ?_
      exact ⟨rfl, (by omega), (by omega)⟩
    refine w_goto ?_
    refine w_step rfl ?_
    refine w_push kc_1 ?_
    refine w_goto ?_
    refine w_step rfl ?_
    refine w_callS1I rfl (c_X6_truth ok (by omega) (by omega)) ?_
    rintro z50 t50 ⟨rfl, hp50_0⟩
    refine w_retI rfl ?_
    exact ⟨rfl, (by omega), (by omega)⟩
  · refine w_sw (n := 19) (tsw_at hs1 (by decide)) ?_
    refine w_step rfl ?_
    refine w_iload rfl ?_
    refine w_ine (by omega) (fun h51 => ?_) (fun h51 => ?_)
    · skip
      refine w_step rfl ?_
      refine w_push kc_1 ?_
      refine w_goto ?_
      refine w_step rfl ?_
      refine w_callS1I rfl (c_X6_truth ok (by omega) (by omega)) ?_
      rintro z52 t52 ⟨rfl, hp52_0⟩
      refine w_retI rfl ?_
      exact ⟨rfl, (by omega), (by omega)⟩
    refine w_iload rfl ?_
    refine w_ieq (by omega) (fun h53 => ?_) (fun h53 => ?_)
    · skip
      refine w_step rfl ?_
      refine w_push kc_0 ?_
      refine w_goto ?_
      refine w_step rfl ?_
      refine w_callS1I rfl (c_X6_truth ok (by omega) (by omega)) ?_
      rintro z54 t54 ⟨rfl, hp54_0⟩
      refine w_retI rfl ?_
      exact ⟨rfl, (by omega), (by omega)⟩
    refine w_goto ?_
    refine w_step rfl ?_
    refine w_push kc_1 ?_
    refine w_goto ?_
    refine w_step rfl ?_
    refine w_callS1I rfl (c_X6_truth ok (by omega) (by omega)) ?_
    rintro z55 t55 ⟨rfl, hp55_0⟩
    refine w_retI rfl ?_
    exact ⟨rfl, (by omega), (by omega)⟩
  · refine w_sw (n := 19) (tsw_at hs1 (by decide)) ?_
    refine w_step rfl ?_
    refine w_iload rfl ?_
    refine w_ine (by omega) (fun h56 => ?_) (fun h56 => ?_)
    · skip
      refine w_step rfl ?_
      refine w_push kc_1 ?_
      refine w_goto ?_
      refine w_step rfl ?_
      refine w_callS1I rfl (c_X6_truth ok (by omega) (by omega)) ?_
      rintro z57 t57 ⟨rfl, hp57_0⟩
      refine w_retI rfl ?_
      exact ⟨rfl, (by omega), (by omega)⟩
    refine w_iload rfl ?_
    refine w_ieq (by omega) (fun h58 => ?_) (fun h58 => ?_)
    · skip
      refine w_step rfl ?_
      refine w_push kc_0 ?_
      refine w_goto ?_
      refine w_step rfl ?_
      refine w_callS1I rfl (c_X6_truth ok (by omega) (by omega)) ?_
      rintro z59 t59 ⟨rfl, hp59_0⟩
      refine w_retI rfl ?_
      exact ⟨rfl, (by omega), (by omega)⟩
    refine w_goto ?_
    refine w_step rfl ?_
    refine w_push kc_1 ?_
    refine w_goto ?_
    refine w_step rfl ?_
    refine w_callS1I rfl (c_X6_truth ok (by omega) (by omega)) ?_
    rintro z60 t60 ⟨rfl, hp60_0⟩
    refine w_retI rfl ?_
    exact ⟨rfl, (by omega), (by omega)⟩
  · refine w_sw (n := 19) (tsw_at hs1 (by decide)) ?_
    refine w_step rfl ?_
    refine w_iload rfl ?_
    refine w_ine (by omega) (fun h61 => ?_) (fun h61 => ?_)
    · skip
      refine w_step rfl ?_
      refine w_push kc_1 ?_
      refine w_goto ?_
      refine w_step rfl ?_
      refine w_callS1I rfl (c_X6_truth ok (by omega) (by omega)) ?_
      rintro z62 t62 ⟨rfl, hp62_0⟩
      refine w_retI rfl ?_
      exact ⟨rfl, (by omega), (by omega)⟩
    refine w_iload rfl ?_
    refine w_ieq (by omega) (fun h63 => ?_) (fun h63 => ?_)
    · skip
      refine w_step rfl ?_
      refine w_push kc_0 ?_
      refine w_goto ?_
      refine w_step rfl ?_
      refine w_callS1I rfl (c_X6_truth ok (by omega) (by omega)) ?_
      rintro z64 t64 ⟨rfl, hp64_0⟩
      refine w_retI rfl ?_
      exact ⟨rfl, (by omega), (by omega)⟩
    refine w_goto ?_
    refine w_step rfl ?_
    refine w_push kc_1 ?_
    refine w_goto ?_
    refine w_step rfl ?_
    refine w_callS1I rfl (c_X6_truth ok (by omega) (by omega)) ?_
    rintro z65 t65 ⟨rfl, hp65_0⟩
    refine w_retI rfl ?_
    exact ⟨rfl, (by omega), (by omega)⟩
  · refine w_sw (n := 19) (tsw_at hs1 (by decide)) ?_
    refine w_step rfl ?_
    refine w_iload rfl ?_
    refine w_ine (by omega) (fun h66 => ?_) (fun h66 => ?_)
    · skip
      refine w_step rfl ?_
      refine w_push kc_1 ?_
      refine w_goto ?_
      refine w_step rfl ?_
      refine w_callS1I rfl (c_X6_truth ok (by omega) (by omega)) ?_
      rintro z67 t67 ⟨rfl, hp67_0⟩
      refine w_retI rfl ?_
      exact ⟨rfl, (by omega), (by omega)⟩
    refine w_iload rfl ?_
    refine w_ieq (by omega) (fun h68 => ?_) (fun h68 => ?_)
    · skip
      refine w_step rfl ?_
      refine w_push kc_0 ?_
      refine w_goto ?_
      refine w_step rfl ?_
      refine w_callS1I rfl (c_X6_truth ok (by omega) (by omega)) ?_
      rintro z69 t69 ⟨rfl, hp69_0⟩
      refine w_retI rfl ?_
      exact ⟨rfl, (by omega), (by omega)⟩
    refine w_goto ?_
    refine w_step rfl ?_
    refine w_push kc_1 ?_
    refine w_goto ?_
    refine w_step rfl ?_
    refine w_callS1I rfl (c_X6_truth ok (by omega) (by omega)) ?_
    rintro z70 t70 ⟨rfl, hp70_0⟩
    refine w_retI rfl ?_
    exact ⟨rfl, (by omega), (by omega)⟩
  · refine w_sw (n := 19) (tsw_at hs1 (by decide)) ?_
    refine w_step rfl ?_
    refine w_iload rfl ?_
    refine w_ine (by omega) (fun h71 => ?_) (fun h71 => ?_)
    · skip
      refine w_step rfl ?_
      refine w_push kc_1 ?_
      refine w_goto ?_
      refine w_step rfl ?_
      refine w_callS1I rfl (c_X6_truth ok (by omega) (by omega)) ?_
      rintro z72 t72 ⟨rfl, hp72_0⟩
      refine w_retI rfl ?_
      exact ⟨rfl, (by omega), (by omega)⟩
    refine w_iload rfl ?_
    refine w_ieq (by omega) (fun h73 => ?_) (fun h73 => ?_)
    · skip
      refine w_step rfl ?_
      refine w_push kc_0 ?_
      refine w_goto ?_
      refine w_step rfl ?_
      refine w_callS1I rfl (c_X6_truth ok (by omega) (by omega)) ?_
      rintro z74 t74 ⟨rfl, hp74_0⟩
      refine w_retI rfl ?_
      exact ⟨rfl, (by omega), (by omega)⟩
    refine w_goto ?_
    refine w_step rfl ?_
    refine w_push kc_1 ?_
    refine w_goto ?_
    refine w_step rfl ?_
    refine w_callS1I rfl (c_X6_truth ok (by omega) (by omega)) ?_
    rintro z75 t75 ⟨rfl, hp75_0⟩
    refine w_retI rfl ?_
    exact ⟨rfl, (by omega), (by omega)⟩
  · refine w_sw (n := 19) (tsw_at hs1 (by decide)) ?_
    refine w_step rfl ?_
    refine w_iload rfl ?_
    refine w_ine (by omega) (fun h76 => ?_) (fun h76 => ?_)
    · skip
      refine w_step rfl ?_
      refine w_push kc_1 ?_
      refine w_goto ?_
      refine w_step rfl ?_
      refine w_callS1I rfl (c_X6_truth ok (by omega) (by omega)) ?_
      rintro z77 t77 ⟨rfl, hp77_0⟩
      refine w_retI rfl ?_
      exact ⟨rfl, (by omega), (by omega)⟩
    refine w_iload rfl ?_
    refine w_ieq (by omega) (fun h78 => ?_) (fun h78 => ?_)
    · skip
      refine w_step rfl ?_
      refine w_push kc_0 ?_
      refine w_goto ?_
      refine w_step rfl ?_
      refine w_callS1I rfl (c_X6_truth ok (by omega) (by omega)) ?_
      rintro z79 t79 ⟨rfl, hp79_0⟩
      refine w_retI rfl ?_
      exact ⟨rfl, (by omega), (by omega)⟩
    refine w_goto ?_
    refine w_step rfl ?_
    refine w_push kc_1 ?_
    refine w_goto ?_
    refine w_step rfl ?_
    refine w_callS1I rfl (c_X6_truth ok (by omega) (by omega)) ?_
    rintro z80 t80 ⟨rfl, hp80_0⟩
    refine w_retI rfl ?_
    exact ⟨rfl, (by omega), (by omega)⟩
  · refine w_sw (n := 19) (tsw_at hs1 (by decide)) ?_
    refine w_step rfl ?_
    refine w_iload rfl ?_
    refine w_ine (by omega) (fun h81 => ?_) (fun h81 => ?_)
    · skip
      refine w_step rfl ?_
      refine w_push kc_1 ?_
      refine w_goto ?_
      refine w_step rfl ?_
      refine w_callS1I rfl (c_X6_truth ok (by omega) (by omega)) ?_
      rintro z82 t82 ⟨rfl, hp82_0⟩
      refine w_retI rfl ?_
      exact ⟨rfl, (by omega), (by omega)⟩
    refine w_iload rfl ?_
    refine w_ieq (by omega) (fun h83 => ?_) (fun h83 => ?_)
    · skip
      refine w_step rfl ?_
      refine w_push kc_0 ?_
      refine w_goto ?_
      refine w_step rfl ?_
      refine w_callS1I rfl (c_X6_truth ok (by omega) (by omega)) ?_
      rintro z84 t84 ⟨rfl, hp84_0⟩
      refine w_retI rfl ?_
      exact ⟨rfl, (by omega), (by omega)⟩
    refine w_goto ?_
    refine w_step rfl ?_
    refine w_push kc_1 ?_
    refine w_goto ?_
    refine w_step rfl ?_
    refine w_callS1I rfl (c_X6_truth ok (by omega) (by omega)) ?_
    rintro z85 t85 ⟨rfl, hp85_0⟩
    refine w_retI rfl ?_
    exact ⟨rfl, (by omega), (by omega)⟩
  · refine w_sw (n := 19) (tsw_at hs1 (by decide)) ?_
    refine w_step rfl ?_
    refine w_iload rfl ?_
    refine w_ine (by omega) (fun h86 => ?_) (fun h86 => ?_)
    · skip
      refine w_step rfl ?_
      refine w_push kc_1 ?_
      refine w_goto ?_
      refine w_step rfl ?_
      refine w_callS1I rfl (c_X6_truth ok (by omega) (by omega)) ?_
      rintro z87 t87 ⟨rfl, hp87_0⟩
      refine w_retI rfl ?_
      exact ⟨rfl, (by omega), (by omega)⟩
    refine w_iload rfl ?_
    refine w_ieq (by omega) (fun h88 => ?_) (fun h88 => ?_)
    · skip
      refine w_step rfl ?_
      refine w_push kc_0 ?_
      refine w_goto ?_
      refine w_step rfl ?_
      refine w_callS1I rfl (c_X6_truth ok (by omega) (by omega)) ?_
      rintro z89 t89 ⟨rfl, hp89_0⟩
      refine w_retI rfl ?_
      exact ⟨rfl, (by omega), (by omega)⟩
    refine w_goto ?_
    refine w_step rfl ?_
    refine w_push kc_1 ?_
    refine w_goto ?_
    refine w_step rfl ?_
    refine w_callS1I rfl (c_X6_truth ok (by omega) (by omega)) ?_
    rintro z90 t90 ⟨rfl, hp90_0⟩
    refine w_retI rfl ?_
    exact ⟨rfl, (by omega), (by omega)⟩
  · refine w_sw (n := 19) (tsw_at hs1 (by decide)) ?_
    refine w_step rfl ?_
    refine w_iload rfl ?_
    refine w_ine (by omega) (fun h91 => ?_) (fun h91 => ?_)
    · skip
      refine w_step rfl ?_
      refine w_push kc_1 ?_
      refine w_goto ?_
      refine w_step rfl ?_
      refine w_callS1I rfl (c_X6_truth ok (by omega) (by omega)) ?_
      rintro z92 t92 ⟨rfl, hp92_0⟩
      refine w_retI rfl ?_
      exact ⟨rfl, (by omega), (by omega)⟩
    refine w_iload rfl ?_
    refine w_ieq (by omega) (fun h93 => ?_) (fun h93 => ?_)
    · skip
      refine w_step rfl ?_
      refine w_push kc_0 ?_
      refine w_goto ?_
      refine w_step rfl ?_
      refine w_callS1I rfl (c_X6_truth ok (by omega) (by omega)) ?_
      rintro z94 t94 ⟨rfl, hp94_0⟩
      refine w_retI rfl ?_
      exact ⟨rfl, (by omega), (by omega)⟩
    refine w_goto ?_
    refine w_step rfl ?_
    refine w_push kc_1 ?_
    refine w_goto ?_
    refine w_step rfl ?_
    refine w_callS1I rfl (c_X6_truth ok (by omega) (by omega)) ?_
    rintro z95 t95 ⟨rfl, hp95_0⟩
    refine w_retI rfl ?_
    exact ⟨rfl, (by omega), (by omega)⟩
  · refine w_sw (n := 19) (tsw_at hs1 (by decide)) ?_
    refine w_step rfl ?_
    refine w_iload rfl ?_
    refine w_ine (by omega) (fun h96 => ?_) (fun h96 => ?_)
    · skip
      refine w_step rfl ?_
      refine w_push kc_1 ?_
      refine w_goto ?_
      refine w_step rfl ?_
      refine w_callS1I rfl (c_X6_truth ok (by omega) (by omega)) ?_
      rintro z97 t97 ⟨rfl, hp97_0⟩
      refine w_retI rfl ?_
      exact ⟨rfl, (by omega), (by omega)⟩
    refine w_iload rfl ?_
    refine w_ieq (by omega) (fun h98 => ?_) (fun h98 => ?_)
    · skip
      refine w_step rfl ?_
      refine w_push kc_0 ?_
      refine w_goto ?_
      refine w_step rfl ?_
      refine w_callS1I rfl (c_X6_truth ok (by omega) (by omega)) ?_
      rintro z99 t99 ⟨rfl, hp99_0⟩
      refine w_retI rfl ?_
      exact ⟨rfl, (by omega), (by omega)⟩
    refine w_goto ?_
    refine w_step rfl ?_
    refine w_push kc_1 ?_
    refine w_goto ?_
    refine w_step rfl ?_
    refine w_callS1I rfl (c_X6_truth ok (by omega) (by omega)) ?_
    rintro z100 t100 ⟨rfl, hp100_0⟩
    refine w_retI rfl ?_
    exact ⟨rfl, (by omega), (by omega)⟩
  · refine w_sw (n := 19) (tsw_at hs1 (by decide)) ?_
    refine w_step rfl ?_
    refine w_iload rfl ?_
    refine w_ine (by omega) (fun h101 => ?_) (fun h101 => ?_)
    · skip
      refine w_step rfl ?_
      refine w_push kc_1 ?_
      refine w_goto ?_
      refine w_step rfl ?_
      refine w_callS1I rfl (c_X6_truth ok (by omega) (by omega)) ?_
      rintro z102 t102 ⟨rfl, hp102_0⟩
      refine w_retI rfl ?_
      exact ⟨rfl, (by omega), (by omega)⟩
    refine w_iload rfl ?_
    refine w_ieq (by omega) (fun h103 => ?_) (fun h103 => ?_)
    · skip
      refine w_step rfl ?_
      refine w_push kc_0 ?_
      refine w_goto ?_
      refine w_step rfl ?_
      refine w_callS1I rfl (c_X6_truth ok (by omega) (by omega)) ?_
      rintro z104 t104 ⟨rfl, hp104_0⟩
      refine w_retI rfl ?_
      exact ⟨rfl, (by omega), (by omega)⟩
    refine w_goto ?_
    refine w_step rfl ?_
    refine w_push kc_1 ?_
    refine w_goto ?_
    refine w_step rfl ?_
    refine w_callS1I rfl (c_X6_truth ok (by omega) (by omega)) ?_
    rintro z105 t105 ⟨rfl, hp105_0⟩
    refine w_retI rfl ?_
    exact ⟨rfl, (by omega), (by omega)⟩
  · refine w_sw (n := 19) (tsw_df (m := 25) rfl (by omega) (by omega)) ?_
    refine w_step rfl ?_
    refine w_iload rfl ?_
    refine w_ine (by omega) (fun h106 => ?_) (fun h106 => ?_)
    · skip
      refine w_step rfl ?_
      refine w_push kc_1 ?_
      refine w_goto ?_
      refine w_step rfl ?_
      refine w_callS1I rfl (c_X6_truth ok (by omega) (by omega)) ?_
      rintro z107 t107 ⟨rfl, hp107_0⟩
      refine w_retI rfl ?_
      exact ⟨rfl, (by omega), (by omega)⟩
    refine w_iload rfl ?_
    refine w_ieq (by omega) (fun h108 => ?_) (fun h108 => ?_)
    · skip
      refine w_step rfl ?_
      refine w_push kc_0 ?_
      refine w_goto ?_
      refine w_step rfl ?_
      refine w_callS1I rfl (c_X6_truth ok (by omega) (by omega)) ?_
      rintro z109 t109 ⟨rfl, hp109_0⟩
      refine w_retI rfl ?_
      exact ⟨rfl, (by omega), (by omega)⟩
    refine w_goto ?_
    refine w_step rfl ?_
    refine w_push kc_1 ?_
    refine w_goto ?_
    refine w_step rfl ?_
    refine w_callS1I rfl (c_X6_truth ok (by omega) (by omega)) ?_
    rintro z110 t110 ⟨rfl, hp110_0⟩
    refine w_retI rfl ?_
    exact ⟨rfl, (by omega), (by omega)⟩
set_option maxRecDepth 100000 in
set_option maxHeartbeats 4000000 in
theorem c_X6_gives {d : Nat} {t : TS} {j : Nat} {p q r : Int}  (hj : j < (tD t).length) (ok : OK t) (q0 : -2147483648 ≤ p) (q1 : p ≤ 2147483647) (q2 : -2147483648 ≤ q) (q3 : q ≤ 2147483647) (q4 : -2147483648 ≤ r) (q5 : r ≤ 2147483647) : CI (EX FU (d + 3)) 63 [.ref (92 + 4 * j), .int (jI p), .int (jI q), .int (jI r)] (mk t) (fun z t' => OK t' ∧ Fr [] t t' ∧ (-2147483648 ≤ z) ∧ (z ≤ 2147483647)) := by
  refine CI_ent (d := d + 2) (Bk := bX6_gives) (nL := 6) rfl rfl rfl (Nat.le_of_ble_eq_true rfl) ?_
  show Rn _ 1000000 0 [some (.ref (92 + 4 * j)), some (.int (jI p)), some (.int (jI q)), some (.int (jI r)), none, none] [] _ _
  have fr : Fr [] t t := Fr.rf _ _
  have hx1 := (tx_ok ok hj).2.2.1
  have hx2 := (tx_ok ok hj).2.2.2.1
  have hx3 := (tx_ok ok hj).2.2.2.2
  refine w_step rfl ?_
  refine w_push kc_0 ?_
  refine w_istore (lv' := [some (.ref (92 + 4 * j)), some (.int (jI p)), some (.int (jI q)), some (.int (jI r)), some (.int (jI 0)), none]) rfl ?_
  refine w_push kc_0 ?_
  refine w_istore (lv' := [some (.ref (92 + 4 * j)), some (.int (jI p)), some (.int (jI q)), some (.int (jI r)), some (.int (jI 0)), some (.int (jI 0))]) rfl ?_
  refine w_goto ?_
  have key1 : ∀ (n1 M1 : Nat) (top : Int) (i : Int) (t1 : TS), OK t1 → Fr [] t t1 → (0 ≤ top) → (top ≤ ((tx t j).2.2.2.2.length : Int)) → (0 ≤ i) → (i ≤ 95) → 96 - i < (n1 : Int) → 60 * n1 + (1000) ≤ M1 → Rn (bX6_gives (EX FU (d + 2))) M1 1 [some (.ref (92 + 4 * j)), some (.int (jI p)), some (.int (jI q)), some (.int (jI r)), some (.int (jI top)), some (.int (jI i))] [] (mk t1) (PI (fun z t' => OK t' ∧ Fr [] t t' ∧ (-2147483648 ≤ z) ∧ (z ≤ 2147483647))) := by
    intro n1
    induction n1 with
    | zero => intro M1 top i t1 ok1 fr1 i1_0 i1_1 i1_2 i1_3 v1 f1; exfalso; omega
    | succ n1 ih1 =>
      intro M1 top i t1 ok1 fr1 i1_0 i1_1 i1_2 i1_3 v1 f1
      obtain ⟨M1, rfl⟩ : ∃ m, M1 = m + 60 := ⟨M1 - 60, by omega⟩
      refine w_step rfl ?_
      refine w_iload rfl ?_
      refine w_aload rfl ?_
      refine w_getX2 (by have hl := fr1.len; omega) ?_
      refine w_lenG (iaX1 (by have hl := fr1.len; omega)) (fr1.x1l j) ?_
      refine w_cge (by omega) (fun h3 => ?_) (fun h3 => ?_)
      · skip
        refine w_step rfl ?_
        refine w_iload rfl ?_
        refine w_ile (by omega) (fun h4 => ?_) (fun h4 => ?_)
        · skip
          refine w_step rfl ?_
          refine w_push kc_0 ?_
          refine w_goto ?_
          refine w_step rfl ?_
          refine w_retI rfl ?_
          exact ⟨ok1, fr1, (by omega), (by omega)⟩
        refine w_aload rfl ?_
        refine w_getX4 (by have hl := fr1.len; omega) ?_
        refine w_push kc_0 ?_
        refine w_aldG (i := 0) (iaX3 (by have hl := fr1.len; omega)) (by omega) (by have h := fr1.x3l j; omega) (by have h := fr1.x3l j; omega) (fun z6 hz6 hl6 hh6 => ?_)
        refine w_goto ?_
        refine w_step rfl ?_
        refine w_retI rfl ?_
        exact ⟨ok1, fr1, (by omega), (by omega)⟩
      refine w_iload rfl ?_
      refine w_aload rfl ?_
      refine w_getX3 (by have hl := fr1.len; omega) ?_
      refine w_lenG (iaX2 (by have hl := fr1.len; omega)) (fr1.x2l j) ?_
      refine w_cge (by omega) (fun h8 => ?_) (fun h8 => ?_)
      · skip
        refine w_step rfl ?_
        refine w_iload rfl ?_
        refine w_ile (by omega) (fun h9 => ?_) (fun h9 => ?_)
        · skip
          refine w_step rfl ?_
          refine w_push kc_0 ?_
          refine w_goto ?_
          refine w_step rfl ?_
          refine w_retI rfl ?_
          exact ⟨ok1, fr1, (by omega), (by omega)⟩
        refine w_aload rfl ?_
        refine w_getX4 (by have hl := fr1.len; omega) ?_
        refine w_push kc_0 ?_
        refine w_aldG (i := 0) (iaX3 (by have hl := fr1.len; omega)) (by omega) (by have h := fr1.x3l j; omega) (by have h := fr1.x3l j; omega) (fun z11 hz11 hl11 hh11 => ?_)
        refine w_goto ?_
        refine w_step rfl ?_
        refine w_retI rfl ?_
        exact ⟨ok1, fr1, (by omega), (by omega)⟩
      refine w_aload rfl ?_
      refine w_getX2 (by have hl := fr1.len; omega) ?_
      refine w_iload rfl ?_
      refine w_aldG (i := (i).toNat) (iaX1 (by have hl := fr1.len; omega)) (by omega) (by have h := fr1.x1l j; omega) (by have h := fr1.x1l j; omega) (fun z13 hz13 hl13 hh13 => ?_)
      refine w_ieq (by omega) (fun h14 => ?_) (fun h14 => ?_)
      · skip
        refine w_step rfl ?_
        refine w_iload rfl ?_
        refine w_aload rfl ?_
        refine w_getX4 (by have hl := fr1.len; omega) ?_
        refine w_lenG (iaX3 (by have hl := fr1.len; omega)) (fr1.x3l j) ?_
        refine w_cge (by omega) (fun h16 => ?_) (fun h16 => ?_)
        · skip
          refine w_step rfl ?_
          refine w_iinc (lv' := [some (.ref (92 + 4 * j)), some (.int (jI p)), some (.int (jI q)), some (.int (jI r)), some (.int (jI top)), some (.int (jI (i + 1)))]) kc_1 rfl rfl ?_
          refine w_goto ?_
          exact ih1 _ top (i + 1) t1 ok1 fr1 (by omega) (by omega) (by omega) (by omega) (by omega) (by omega)
        refine w_aload rfl ?_
        refine w_getX4 (by have hl := fr1.len; omega) ?_
        refine w_iload rfl ?_
        refine w_aload rfl ?_
        refine w_getX2 (by have hl := fr1.len; omega) ?_
        refine w_iload rfl ?_
        refine w_aldG (i := (i).toNat) (iaX1 (by have hl := fr1.len; omega)) (by omega) (by have h := fr1.x1l j; omega) (by have h := fr1.x1l j; omega) (fun z19 hz19 hl19 hh19 => ?_)
        refine w_ine (by omega) (fun h20 => ?_) (fun h20 => ?_)
        · skip
          refine w_step rfl ?_
          refine w_aload rfl ?_
          refine w_getX3 (by have hl := fr1.len; omega) ?_
          refine w_iload rfl ?_
          refine w_aldG (i := (i).toNat) (iaX2 (by have hl := fr1.len; omega)) (by omega) (by have h := fr1.x2l j; omega) (by have h := fr1.x2l j; omega) (fun z22 hz22 hl22 hh22 => ?_)
          refine w_iload rfl ?_
          refine w_iload rfl ?_
          refine w_iload rfl ?_
          refine w_callS4I rfl (c_X6_named ok1 (by omega) (by omega) (by omega) (by omega) (by omega) (by omega) (by omega) (by omega)) ?_
          rintro z23 t23 ⟨rfl, hp23_0, hp23_1⟩
          refine w_goto ?_
          refine w_step rfl ?_
          refine w_astX (i := (top).toNat) (by have hl := fr1.len; omega) ok1 (by omega) (by have h := fr1.x3l j; omega) (fun t24 ht24 ok24 => ?_)
          have fr24 := fr1.uX (by have hl := fr1.len; omega) ht24
          refine w_iinc (lv' := [some (.ref (92 + 4 * j)), some (.int (jI p)), some (.int (jI q)), some (.int (jI r)), some (.int (jI (top + 1))), some (.int (jI i))]) kc_1 rfl rfl ?_
          refine w_goto ?_
          refine w_step rfl ?_
          refine w_iinc (lv' := [some (.ref (92 + 4 * j)), some (.int (jI p)), some (.int (jI q)), some (.int (jI r)), some (.int (jI (top + 1))), some (.int (jI (i + 1)))]) kc_1 rfl rfl ?_
          refine w_goto ?_
          exact ih1 _ (top + 1) (i + 1) t24 ok24 fr24 (by omega) (by omega) (by omega) (by omega) (by omega) (by omega)
        refine w_aload rfl ?_
        refine w_getX3 (by have hl := fr1.len; omega) ?_
        refine w_iload rfl ?_
        refine w_aldG (i := (i).toNat) (iaX2 (by have hl := fr1.len; omega)) (by omega) (by have h := fr1.x2l j; omega) (by have h := fr1.x2l j; omega) (fun z26 hz26 hl26 hh26 => ?_)
        refine w_goto ?_
        refine w_step rfl ?_
        refine w_astX (i := (top).toNat) (by have hl := fr1.len; omega) ok1 (by omega) (by have h := fr1.x3l j; omega) (fun t27 ht27 ok27 => ?_)
        have fr27 := fr1.uX (by have hl := fr1.len; omega) ht27
        refine w_iinc (lv' := [some (.ref (92 + 4 * j)), some (.int (jI p)), some (.int (jI q)), some (.int (jI r)), some (.int (jI (top + 1))), some (.int (jI i))]) kc_1 rfl rfl ?_
        refine w_goto ?_
        refine w_step rfl ?_
        refine w_iinc (lv' := [some (.ref (92 + 4 * j)), some (.int (jI p)), some (.int (jI q)), some (.int (jI r)), some (.int (jI (top + 1))), some (.int (jI (i + 1)))]) kc_1 rfl rfl ?_
        refine w_goto ?_
        exact ih1 _ (top + 1) (i + 1) t27 ok27 fr27 (by omega) (by omega) (by omega) (by omega) (by omega) (by omega)
      refine w_aload rfl ?_
      refine w_getX2 (by have hl := fr1.len; omega) ?_
      refine w_iload rfl ?_
      refine w_aldG (i := (i).toNat) (iaX1 (by have hl := fr1.len; omega)) (by omega) (by have h := fr1.x1l j; omega) (by have h := fr1.x1l j; omega) (fun z29 hz29 hl29 hh29 => ?_)
      refine w_push kc_1 ?_
      refine w_cne (by omega) (fun h30 => ?_) (fun h30 => ?_)
      · skip
        refine w_step rfl ?_
        refine w_aload rfl ?_
        refine w_getX2 (by have hl := fr1.len; omega) ?_
        refine w_iload rfl ?_
        refine w_aldG (i := (i).toNat) (iaX1 (by have hl := fr1.len; omega)) (by omega) (by have h := fr1.x1l j; omega) (by have h := fr1.x1l j; omega) (fun z32 hz32 hl32 hh32 => ?_)
        refine w_push kc_33 ?_
        refine w_cne (by omega) (fun h33 => ?_) (fun h33 => ?_)
        · skip
          refine w_step rfl ?_
          refine w_iload rfl ?_
          refine w_push kc_1 ?_
          refine w_cle (by omega) (fun h34 => ?_) (fun h34 => ?_)
          · skip
            refine w_step rfl ?_
            refine w_iinc (lv' := [some (.ref (92 + 4 * j)), some (.int (jI p)), some (.int (jI q)), some (.int (jI r)), some (.int (jI top)), some (.int (jI (i + 1)))]) kc_1 rfl rfl ?_
            refine w_goto ?_
            exact ih1 _ top (i + 1) t1 ok1 fr1 (by omega) (by omega) (by omega) (by omega) (by omega) (by omega)
          refine w_iinc (lv' := [some (.ref (92 + 4 * j)), some (.int (jI p)), some (.int (jI q)), some (.int (jI r)), some (.int (jI (top + (-1)))), some (.int (jI i))]) kc_m1 rfl rfl ?_
          refine w_aload rfl ?_
          refine w_getX4 (by have hl := fr1.len; omega) ?_
          refine w_iload rfl ?_
          refine w_push kc_1 ?_
          refine w_sub ?_
          refine w_aload rfl ?_
          refine w_getX2 (by have hl := fr1.len; omega) ?_
          refine w_iload rfl ?_
          refine w_aldG (i := (i).toNat) (iaX1 (by have hl := fr1.len; omega)) (by omega) (by have h := fr1.x1l j; omega) (by have h := fr1.x1l j; omega) (fun z37 hz37 hl37 hh37 => ?_)
          refine w_aload rfl ?_
          refine w_getX4 (by have hl := fr1.len; omega) ?_
          refine w_iload rfl ?_
          refine w_push kc_1 ?_
          refine w_sub ?_
          refine w_aldG (i := (((top + (-1)) - 1)).toNat) (iaX3 (by have hl := fr1.len; omega)) (by omega) (by have h := fr1.x3l j; omega) (by have h := fr1.x3l j; omega) (fun z39 hz39 hl39 hh39 => ?_)
          refine w_aload rfl ?_
          refine w_getX4 (by have hl := fr1.len; omega) ?_
          refine w_iload rfl ?_
          refine w_aldG (i := ((top + (-1))).toNat) (iaX3 (by have hl := fr1.len; omega)) (by omega) (by have h := fr1.x3l j; omega) (by have h := fr1.x3l j; omega) (fun z41 hz41 hl41 hh41 => ?_)
          refine w_callS3I rfl (c_X6_joined ok1 (by omega) (by omega) (by omega) (by omega) (by omega) (by omega)) ?_
          rintro z42 t42 ⟨rfl, hp42_0, hp42_1⟩
          refine w_astX (i := (((top + (-1)) - 1)).toNat) (by have hl := fr1.len; omega) ok1 (by omega) (by have h := fr1.x3l j; omega) (fun t43 ht43 ok43 => ?_)
          have fr43 := fr1.uX (by have hl := fr1.len; omega) ht43
          refine w_goto ?_
          refine w_step rfl ?_
          refine w_iinc (lv' := [some (.ref (92 + 4 * j)), some (.int (jI p)), some (.int (jI q)), some (.int (jI r)), some (.int (jI (top + (-1)))), some (.int (jI (i + 1)))]) kc_1 rfl rfl ?_
          refine w_goto ?_
          exact ih1 _ (top + (-1)) (i + 1) t43 ok43 fr43 (by omega) (by omega) (by omega) (by omega) (by omega) (by omega)
        refine w_iload rfl ?_
        refine w_ile (by omega) (fun h44 => ?_) (fun h44 => ?_)
        · skip
          refine w_step rfl ?_
          refine w_iinc (lv' := [some (.ref (92 + 4 * j)), some (.int (jI p)), some (.int (jI q)), some (.int (jI r)), some (.int (jI top)), some (.int (jI (i + 1)))]) kc_1 rfl rfl ?_
          refine w_goto ?_
          exact ih1 _ top (i + 1) t1 ok1 fr1 (by omega) (by omega) (by omega) (by omega) (by omega) (by omega)
        refine w_aload rfl ?_
        refine w_getX4 (by have hl := fr1.len; omega) ?_
        refine w_iload rfl ?_
        refine w_push kc_1 ?_
        refine w_sub ?_
        refine w_aload rfl ?_
        refine w_getX4 (by have hl := fr1.len; omega) ?_
        refine w_iload rfl ?_
        refine w_push kc_1 ?_
        refine w_sub ?_
        refine w_aldG (i := ((top - 1)).toNat) (iaX3 (by have hl := fr1.len; omega)) (by omega) (by have h := fr1.x3l j; omega) (by have h := fr1.x3l j; omega) (fun z47 hz47 hl47 hh47 => ?_)
        refine w_ine (by omega) (fun h48 => ?_) (fun h48 => ?_)
        · skip
          refine w_step rfl ?_
          refine w_push kc_0 ?_
          refine w_goto ?_
          refine w_step rfl ?_
          refine w_callS1I rfl (c_X6_truth ok1 (by omega) (by omega)) ?_
          rintro z49 t49 ⟨rfl, hp49_0⟩
          refine w_astX (i := ((top - 1)).toNat) (by have hl := fr1.len; omega) ok1 (by omega) (by have h := fr1.x3l j; omega) (fun t50 ht50 ok50 => ?_)
          have fr50 := fr1.uX (by have hl := fr1.len; omega) ht50
          refine w_goto ?_
          refine w_step rfl ?_
          refine w_iinc (lv' := [some (.ref (92 + 4 * j)), some (.int (jI p)), some (.int (jI q)), some (.int (jI r)), some (.int (jI top)), some (.int (jI (i + 1)))]) kc_1 rfl rfl ?_
          refine w_goto ?_
          exact ih1 _ top (i + 1) t50 ok50 fr50 (by omega) (by omega) (by omega) (by omega) (by omega) (by omega)
        refine w_push kc_1 ?_
        refine w_goto ?_
        refine w_step rfl ?_
        refine w_callS1I rfl (c_X6_truth ok1 (by omega) (by omega)) ?_
        rintro z51 t51 ⟨rfl, hp51_0⟩
        refine w_astX (i := ((top - 1)).toNat) (by have hl := fr1.len; omega) ok1 (by omega) (by have h := fr1.x3l j; omega) (fun t52 ht52 ok52 => ?_)
        have fr52 := fr1.uX (by have hl := fr1.len; omega) ht52
        refine w_goto ?_
        refine w_step rfl ?_
        refine w_iinc (lv' := [some (.ref (92 + 4 * j)), some (.int (jI p)), some (.int (jI q)), some (.int (jI r)), some (.int (jI top)), some (.int (jI (i + 1)))]) kc_1 rfl rfl ?_
        refine w_goto ?_
        exact ih1 _ top (i + 1) t52 ok52 fr52 (by omega) (by omega) (by omega) (by omega) (by omega) (by omega)
      refine w_goto ?_
      refine w_step rfl ?_
      refine w_iload rfl ?_
      refine w_aload rfl ?_
      refine w_getX4 (by have hl := fr1.len; omega) ?_
      refine w_lenG (iaX3 (by have hl := fr1.len; omega)) (fr1.x3l j) ?_
      refine w_cge (by omega) (fun h54 => ?_) (fun h54 => ?_)
      · skip
        refine w_step rfl ?_
        refine w_iinc (lv' := [some (.ref (92 + 4 * j)), some (.int (jI p)), some (.int (jI q)), some (.int (jI r)), some (.int (jI top)), some (.int (jI (i + 1)))]) kc_1 rfl rfl ?_
        refine w_goto ?_
        exact ih1 _ top (i + 1) t1 ok1 fr1 (by omega) (by omega) (by omega) (by omega) (by omega) (by omega)
      refine w_aload rfl ?_
      refine w_getX4 (by have hl := fr1.len; omega) ?_
      refine w_iload rfl ?_
      refine w_aload rfl ?_
      refine w_getX2 (by have hl := fr1.len; omega) ?_
      refine w_iload rfl ?_
      refine w_aldG (i := (i).toNat) (iaX1 (by have hl := fr1.len; omega)) (by omega) (by have h := fr1.x1l j; omega) (by have h := fr1.x1l j; omega) (fun z57 hz57 hl57 hh57 => ?_)
      refine w_ine (by omega) (fun h58 => ?_) (fun h58 => ?_)
      · skip
        refine w_step rfl ?_
        refine w_aload rfl ?_
        refine w_getX3 (by have hl := fr1.len; omega) ?_
        refine w_iload rfl ?_
        refine w_aldG (i := (i).toNat) (iaX2 (by have hl := fr1.len; omega)) (by omega) (by have h := fr1.x2l j; omega) (by have h := fr1.x2l j; omega) (fun z60 hz60 hl60 hh60 => ?_)
        refine w_iload rfl ?_
        refine w_iload rfl ?_
        refine w_iload rfl ?_
        refine w_callS4I rfl (c_X6_named ok1 (by omega) (by omega) (by omega) (by omega) (by omega) (by omega) (by omega) (by omega)) ?_
        rintro z61 t61 ⟨rfl, hp61_0, hp61_1⟩
        refine w_goto ?_
        refine w_step rfl ?_
        refine w_astX (i := (top).toNat) (by have hl := fr1.len; omega) ok1 (by omega) (by have h := fr1.x3l j; omega) (fun t62 ht62 ok62 => ?_)
        have fr62 := fr1.uX (by have hl := fr1.len; omega) ht62
        refine w_iinc (lv' := [some (.ref (92 + 4 * j)), some (.int (jI p)), some (.int (jI q)), some (.int (jI r)), some (.int (jI (top + 1))), some (.int (jI i))]) kc_1 rfl rfl ?_
        refine w_goto ?_
        refine w_step rfl ?_
        refine w_iinc (lv' := [some (.ref (92 + 4 * j)), some (.int (jI p)), some (.int (jI q)), some (.int (jI r)), some (.int (jI (top + 1))), some (.int (jI (i + 1)))]) kc_1 rfl rfl ?_
        refine w_goto ?_
        exact ih1 _ (top + 1) (i + 1) t62 ok62 fr62 (by omega) (by omega) (by omega) (by omega) (by omega) (by omega)
      refine w_aload rfl ?_
      refine w_getX3 (by have hl := fr1.len; omega) ?_
      refine w_iload rfl ?_
      refine w_aldG (i := (i).toNat) (iaX2 (by have hl := fr1.len; omega)) (by omega) (by have h := fr1.x2l j; omega) (by have h := fr1.x2l j; omega) (fun z64 hz64 hl64 hh64 => ?_)
      refine w_goto ?_
      refine w_step rfl ?_
      refine w_astX (i := (top).toNat) (by have hl := fr1.len; omega) ok1 (by omega) (by have h := fr1.x3l j; omega) (fun t65 ht65 ok65 => ?_)
      have fr65 := fr1.uX (by have hl := fr1.len; omega) ht65
      refine w_iinc (lv' := [some (.ref (92 + 4 * j)), some (.int (jI p)), some (.int (jI q)), some (.int (jI r)), some (.int (jI (top + 1))), some (.int (jI i))]) kc_1 rfl rfl ?_
      refine w_goto ?_
      refine w_step rfl ?_
      refine w_iinc (lv' := [some (.ref (92 + 4 * j)), some (.int (jI p)), some (.int (jI q)), some (.int (jI r)), some (.int (jI (top + 1))), some (.int (jI (i + 1)))]) kc_1 rfl rfl ?_
      refine w_goto ?_
      exact ih1 _ (top + 1) (i + 1) t65 ok65 fr65 (by omega) (by omega) (by omega) (by omega) (by omega) (by omega)
  exact key1 97 _ 0 0 t ok fr (by omega) (by omega) (by omega) (by omega) (by omega) (by omega)
set_option maxRecDepth 100000 in
set_option maxHeartbeats 4000000 in
theorem c_X4_textAt {d : Nat} {t : TS} {b : Nat} {n : Int}  (hb : isT b) (ok : OK t) (q0 : -2147483648 ≤ n) (q1 : n ≤ 2147483647) : CR (EX FU (d + 2)) 34 [.ref b, .int (jI n)] (mk t) (fun z t' => t = t' ∧ (∀ r, z = some r → ∃ j, j < (tD t).length ∧ r = 92 + 4 * j)) := by
  refine CR_ent (d := d + 1) (Bk := bX4_textAt) (nL := 2) rfl rfl rfl (Nat.le_of_ble_eq_true rfl) ?_
  show Rn _ 1000000 0 [some (.ref b), some (.int (jI n))] [] _ _
  refine w_step rfl ?_
  refine w_iload rfl ?_
  refine w_push kc_0 ?_
  refine w_aload rfl ?_
  refine w_getI (gT_11 hb _) (feT_11 hb) ok (fun z1 hz1 hl1 hh1 => ?_)
  refine w_push kc_1 ?_
  refine w_sub ?_
  refine w_callS3I rfl (c_X8_within ok (by omega) (by omega) (by omega) (by omega) (by omega) (by omega)) ?_
  rintro z2 t2 ⟨rfl, hp2_0⟩
  rcases hp2_0 with ⟨rfl, hp2_0⟩ | ⟨rfl, hp2_0⟩
  · skip
    refine w_ieq (by omega) (fun _ => ?_) (fun h => absurd (by omega) h)
    refine w_step rfl ?_
    refine w_pushV ?_
    refine w_goto ?_
    refine w_step rfl ?_
    refine w_retN rfl ?_
    exact ⟨rfl, (fun r h => by first | (cases h; done) | (cases h; exact ⟨_, by assumption, rfl⟩))⟩
  refine w_ieq (by omega) (fun h => absurd h (by omega)) (fun _ => ?_)
  refine w_aload rfl ?_
  refine w_getR (gT_8 hb _) ?_
  refine w_iload rfl ?_
  refine w_texts (i := (n).toNat) (raT' hb _) (by omega) (by omega) ok (fun e3 => ?_) (fun j3 hj3 e3 => ?_)
  · skip
    refine w_goto ?_
    refine w_step rfl ?_
    refine w_retN rfl ?_
    exact ⟨rfl, (fun r h => by first | (cases h; done) | (cases h; exact ⟨_, by assumption, rfl⟩))⟩
  refine w_goto ?_
  refine w_step rfl ?_
  refine w_retR rfl ?_
  exact ⟨rfl, (fun r h => by first | (cases h; done) | (cases h; exact ⟨_, by assumption, rfl⟩))⟩
set_option maxRecDepth 100000 in
set_option maxHeartbeats 4000000 in
theorem c_X4_law {d : Nat} {t : TS} {b : Nat} {k : Int}  (hb : isT b) (ok : OK t) (q0 : 0 ≤ k) (q1 : k ≤ 2) : CR (EX FU (d + 3)) 35 [.ref b, .int (jI k)] (mk t) (fun z t' => t = t' ∧ (∀ r, z = some r → ∃ j, j < (tD t).length ∧ r = 92 + 4 * j)) := by
  refine CR_ent (d := d + 2) (Bk := bX4_law) (nL := 2) rfl rfl rfl (Nat.le_of_ble_eq_true rfl) ?_
  show Rn _ 1000000 0 [some (.ref b), some (.int (jI k))] [] _ _
  refine w_step rfl ?_
  refine w_aload rfl ?_
  refine w_aload rfl ?_
  refine w_getR (gT_9 hb _) ?_
  refine w_iload rfl ?_
  refine w_iald (i := (k).toNat) (aiT_10 hb _) (by omega) (by omega) (aeT_10 hb _) ok (fun z1 hz1 hl1 hh1 => ?_)
  refine w_callV1R (ojT hb _).choose_spec rfl (c_X4_textAt hb ok (by omega) (by omega)) ?_ ?_
  · rintro t2 ⟨rfl, hp2_0⟩
    refine w_retN rfl ?_
    exact ⟨rfl, (fun r h => by first | (cases h; done) | (cases h; exact ⟨_, by assumption, rfl⟩))⟩
  rintro r2 t2 ⟨rfl, hp2_0⟩
  obtain ⟨j2, hj2, rfl⟩ := hp2_0 _ rfl
  refine w_retR rfl ?_
  exact ⟨rfl, (fun r h => by first | (cases h; done) | (cases h; exact ⟨_, by assumption, rfl⟩))⟩
set_option maxRecDepth 100000 in
set_option maxHeartbeats 4000000 in
theorem c_X4_darkOf_N {d : Nat} {t : TS} {k s r h : Int}  (ok : OK t) (q0 : 0 ≤ k) (q1 : k ≤ 5) (q2 : 0 ≤ s) (q3 : s ≤ 6) (q4 : -2147483648 ≤ r) (q5 : r ≤ 2147483647) (q6 : -2147483648 ≤ h) (q7 : h ≤ 2147483647) : CI (EX FU (d + 4)) 38 [.null, .int (jI k), .int (jI s), .int (jI r), .int (jI h)] (mk t) (fun z t' => OK t' ∧ Fr [] t t' ∧ (0 ≤ z) ∧ (z ≤ 99)) := by
  refine CI_ent (d := d + 3) (Bk := bX4_darkOf) (nL := 6) rfl rfl rfl (Nat.le_of_ble_eq_true rfl) ?_
  show Rn _ 1000000 0 [some (.null), some (.int (jI k)), some (.int (jI s)), some (.int (jI r)), some (.int (jI h)), none] [] _ _
  have fr : Fr [] t t := Fr.rf _ _
  refine w_step rfl ?_
  refine w_aloadN rfl ?_
  refine w_ifnonnullN ?_
  refine w_push kc_15 ?_
  refine w_iload rfl ?_
  refine w_mul ?_
  refine w_goto ?_
  refine w_step rfl ?_
  refine w_istore (lv' := [some (.null), some (.int (jI k)), some (.int (jI s)), some (.int (jI r)), some (.int (jI h)), some (.int (jI (15 * s)))]) rfl ?_
  refine w_iload rfl ?_
  refine w_iload rfl ?_
  refine w_push kc_0 ?_
  refine w_push kc_99 ?_
  refine w_callS3I rfl (c_X8_clamp ok (by omega) (by omega) (by omega) (by omega) (by omega) (by omega)) ?_
  rintro z1 t1 ⟨rfl, hp1_0, hp1_1, hp1_2⟩
  refine w_callS2I rfl (c_X0_dark ok (by omega) (by omega) (by omega) (by omega)) ?_
  rintro z2 t2 ⟨rfl, hp2_0, hp2_1, hp2_2⟩
  refine w_retI rfl ?_
  exact ⟨ok, fr, (by omega), (by omega)⟩
set_option maxRecDepth 100000 in
set_option maxHeartbeats 4000000 in
theorem c_X4_darkOf_X {d : Nat} {t : TS} {k s r h : Int} {x : Nat}  (hx : x < (tD t).length) (ok : OK t) (q0 : 0 ≤ k) (q1 : k ≤ 5) (q2 : 0 ≤ s) (q3 : s ≤ 6) (q4 : -2147483648 ≤ r) (q5 : r ≤ 2147483647) (q6 : -2147483648 ≤ h) (q7 : h ≤ 2147483647) : CI (EX FU (d + 4)) 38 [.ref (92 + 4 * x), .int (jI k), .int (jI s), .int (jI r), .int (jI h)] (mk t) (fun z t' => OK t' ∧ Fr [] t t' ∧ (0 ≤ z) ∧ (z ≤ 99)) := by
  refine CI_ent (d := d + 3) (Bk := bX4_darkOf) (nL := 6) rfl rfl rfl (Nat.le_of_ble_eq_true rfl) ?_
  show Rn _ 1000000 0 [some (.ref (92 + 4 * x)), some (.int (jI k)), some (.int (jI s)), some (.int (jI r)), some (.int (jI h)), none] [] _ _
  have fr : Fr [] t t := Fr.rf _ _
  refine w_step rfl ?_
  refine w_aload rfl ?_
  refine w_ifnonnullR ?_
  refine w_step rfl ?_
  refine w_aload rfl ?_
  refine w_iload rfl ?_
  refine w_iload rfl ?_
  refine w_iload rfl ?_
  refine w_callV3I (ojX (by have hl := fr.len; omega)).choose_spec rfl (c_X6_gives (by have hl := fr.len; omega) ok (by omega) (by omega) (by omega) (by omega) (by omega) (by omega)) ?_
  rintro z1 t1 ⟨ok1, fq1, hp1_0, hp1_1⟩
  have fr1 := fr.then fq1 (by simp)
  refine w_goto ?_
  refine w_step rfl ?_
  refine w_istore (lv' := [some (.ref (92 + 4 * x)), some (.int (jI k)), some (.int (jI s)), some (.int (jI r)), some (.int (jI h)), some (.int (jI z1))]) rfl ?_
  refine w_iload rfl ?_
  refine w_iload rfl ?_
  refine w_push kc_0 ?_
  refine w_push kc_99 ?_
  refine w_callS3I rfl (c_X8_clamp ok1 (by omega) (by omega) (by omega) (by omega) (by omega) (by omega)) ?_
  rintro z2 t2 ⟨rfl, hp2_0, hp2_1, hp2_2⟩
  refine w_callS2I rfl (c_X0_dark ok1 (by omega) (by omega) (by omega) (by omega)) ?_
  rintro z3 t3 ⟨rfl, hp3_0, hp3_1, hp3_2⟩
  refine w_retI rfl ?_
  exact ⟨ok1, fr1, (by omega), (by omega)⟩
set_option maxRecDepth 100000 in
set_option maxHeartbeats 4000000 in
theorem c_X4_darken {d : Nat} {t : TS} {b : Nat} {s : Int}  (hb : isT b) (ok : OK t) (q0 : 0 ≤ s) (q1 : s ≤ 11) : CV (EX FU (d + 5)) 37 [.ref b, .int (jI s)] (mk t) (fun t' => OK t' ∧ Fr [(b + 8, 100)] t t') := by
  refine CV_ent (d := d + 4) (Bk := bX4_darken) (nL := 5) rfl rfl rfl (Nat.le_of_ble_eq_true rfl) ?_
  show Rn _ 1000000 0 [some (.ref b), some (.int (jI s)), none, none, none] [] _ _
  have fr : Fr [(b + 8, 100)] t t := Fr.rf _ _
  refine w_step rfl ?_
  refine w_aload rfl ?_
  refine w_push kc_0 ?_
  refine w_callV1R (ojT hb _).choose_spec rfl (c_X4_law hb ok (by omega) (by omega)) ?_ ?_
  · rintro t1 ⟨rfl, hp1_0⟩
    refine w_astoreN (lv' := [some (.ref b), some (.int (jI s)), some (.null), none, none]) rfl ?_
    refine w_aload rfl ?_
    refine w_iload rfl ?_
    refine w_callV1I (ojT hb _).choose_spec rfl (c_X4_heavy hb ok (by omega) (by omega)) ?_
    rintro z2 t2 ⟨rfl, hp2_0, hp2_1, hp2_2⟩
    refine w_istore (lv' := [some (.ref b), some (.int (jI s)), some (.null), some (.int (jI z2)), none]) rfl ?_
    refine w_push kc_0 ?_
    refine w_istore (lv' := [some (.ref b), some (.int (jI s)), some (.null), some (.int (jI z2)), some (.int (jI 0))]) rfl ?_
    refine w_goto ?_
    have key1 : ∀ (n1 M1 : Nat) (r : Int) (t3 : TS), OK t3 → Fr [(b + 8, 100)] t t3 → (0 ≤ r) → (r ≤ 4) → 4 - r < (n1 : Int) → 60 * n1 + (1000) ≤ M1 → Rn (bX4_darken (EX FU (d + 4))) M1 1 [some (.ref b), some (.int (jI s)), some (.null), some (.int (jI z2)), some (.int (jI r))] [] (mk t3) (PV (fun t' => OK t' ∧ Fr [(b + 8, 100)] t t')) := by
      intro n1
      induction n1 with
      | zero => intro M1 r t3 ok3 fr3 i1_0 i1_1 v1 f1; exfalso; omega
      | succ n1 ih1 =>
        intro M1 r t3 ok3 fr3 i1_0 i1_1 v1 f1
        obtain ⟨M1, rfl⟩ : ∃ m, M1 = m + 60 := ⟨M1 - 60, by omega⟩
        refine w_step rfl ?_
        refine w_iload rfl ?_
        refine w_push kc_4 ?_
        refine w_cge (by omega) (fun h4 => ?_) (fun h4 => ?_)
        · skip
          refine w_step rfl ?_
          refine w_retV ?_
          exact ⟨ok3, fr3⟩
        refine w_aload rfl ?_
        refine w_getR (gT_7 hb _) ?_
        refine w_iload rfl ?_
        refine w_iload rfl ?_
        refine w_push kc_0 ?_
        refine w_callS3I rfl (c_X4_darkAt ok3 (by omega) (by omega) (by omega) (by omega) (by omega) (by omega)) ?_
        rintro z5 t5 ⟨rfl, hp5_0⟩
        refine w_aloadN rfl ?_
        refine w_aload rfl ?_
        refine w_getR (gT_0 hb _) ?_
        refine w_iload rfl ?_
        refine w_iald (i := (s).toNat) (aiT_1 hb _) (by omega) (by omega) (aeT_1 hb _) ok3 (fun z6 hz6 hl6 hh6 => ?_)
        refine w_aload rfl ?_
        refine w_getR (gT_1 hb _) ?_
        refine w_iload rfl ?_
        refine w_iald (i := (s).toNat) (aiT_2 hb _) (by omega) (by omega) (aeT_2 hb _) ok3 (fun z7 hz7 hl7 hh7 => ?_)
        refine w_iload rfl ?_
        refine w_iload rfl ?_
        refine w_callS5I rfl (c_X4_darkOf_N ok3 (by omega) (by omega) (by omega) (by omega) (by omega) (by omega) (by omega) (by omega)) ?_
        rintro z8 t8 ⟨ok8, fq8, hp8_0, hp8_1⟩
        have fr8 := fr3.then fq8 (by simp)
        refine w_iast (i := (z5).toNat) (aiT_8 hb _) rfl (by omega) (by omega) (aeT_8 hb _) ok8 (by omega) (fun t9 ht9 ok9 => ?_)
        have fr9 := fr8.uA ht9 (by simp)
        refine w_aload rfl ?_
        refine w_getR (gT_7 hb _) ?_
        refine w_iload rfl ?_
        refine w_iload rfl ?_
        refine w_push kc_1 ?_
        refine w_callS3I rfl (c_X4_darkAt ok9 (by omega) (by omega) (by omega) (by omega) (by omega) (by omega)) ?_
        rintro z10 t10 ⟨rfl, hp10_0⟩
        refine w_aloadN rfl ?_
        refine w_aload rfl ?_
        refine w_getR (gT_0 hb _) ?_
        refine w_iload rfl ?_
        refine w_iald (i := (s).toNat) (aiT_1 hb _) (by omega) (by omega) (aeT_1 hb _) ok9 (fun z11 hz11 hl11 hh11 => ?_)
        refine w_aload rfl ?_
        refine w_getR (gT_2 hb _) ?_
        refine w_iload rfl ?_
        refine w_iald (i := (s).toNat) (aiT_3 hb _) (by omega) (by omega) (aeT_3 hb _) ok9 (fun z12 hz12 hl12 hh12 => ?_)
        refine w_iload rfl ?_
        refine w_iload rfl ?_
        refine w_callS5I rfl (c_X4_darkOf_N ok9 (by omega) (by omega) (by omega) (by omega) (by omega) (by omega) (by omega) (by omega)) ?_
        rintro z13 t13 ⟨ok13, fq13, hp13_0, hp13_1⟩
        have fr13 := fr9.then fq13 (by simp)
        refine w_iast (i := (z10).toNat) (aiT_8 hb _) rfl (by omega) (by omega) (aeT_8 hb _) ok13 (by omega) (fun t14 ht14 ok14 => ?_)
        have fr14 := fr13.uA ht14 (by simp)
        refine w_iinc (lv' := [some (.ref b), some (.int (jI s)), some (.null), some (.int (jI z2)), some (.int (jI (r + 1)))]) kc_1 rfl rfl ?_
        refine w_goto ?_
        exact ih1 _ (r + 1) t14 ok14 fr14 (by omega) (by omega) (by omega) (by omega)
    exact key1 5 _ 0 t ok fr (by omega) (by omega) (by omega) (by omega)
  rintro r1 t1 ⟨rfl, hp1_0⟩
  obtain ⟨j1, hj1, rfl⟩ := hp1_0 _ rfl
  refine w_astore (lv' := [some (.ref b), some (.int (jI s)), some (.ref (92 + 4 * j1)), none, none]) rfl ?_
  refine w_aload rfl ?_
  refine w_iload rfl ?_
  refine w_callV1I (ojT hb _).choose_spec rfl (c_X4_heavy hb ok (by omega) (by omega)) ?_
  rintro z15 t15 ⟨rfl, hp15_0, hp15_1, hp15_2⟩
  refine w_istore (lv' := [some (.ref b), some (.int (jI s)), some (.ref (92 + 4 * j1)), some (.int (jI z15)), none]) rfl ?_
  refine w_push kc_0 ?_
  refine w_istore (lv' := [some (.ref b), some (.int (jI s)), some (.ref (92 + 4 * j1)), some (.int (jI z15)), some (.int (jI 0))]) rfl ?_
  refine w_goto ?_
  have key1 : ∀ (n1 M1 : Nat) (r : Int) (t16 : TS), OK t16 → Fr [(b + 8, 100)] t t16 → (0 ≤ r) → (r ≤ 4) → 4 - r < (n1 : Int) → 60 * n1 + (1000) ≤ M1 → Rn (bX4_darken (EX FU (d + 4))) M1 1 [some (.ref b), some (.int (jI s)), some (.ref (92 + 4 * j1)), some (.int (jI z15)), some (.int (jI r))] [] (mk t16) (PV (fun t' => OK t' ∧ Fr [(b + 8, 100)] t t')) := by
    intro n1
    induction n1 with
    | zero => intro M1 r t16 ok16 fr16 i1_0 i1_1 v1 f1; exfalso; omega
    | succ n1 ih1 =>
      intro M1 r t16 ok16 fr16 i1_0 i1_1 v1 f1
      obtain ⟨M1, rfl⟩ : ∃ m, M1 = m + 60 := ⟨M1 - 60, by omega⟩
      refine w_step rfl ?_
      refine w_iload rfl ?_
      refine w_push kc_4 ?_
      refine w_cge (by omega) (fun h17 => ?_) (fun h17 => ?_)
      · skip
        refine w_step rfl ?_
        refine w_retV ?_
        exact ⟨ok16, fr16⟩
      refine w_aload rfl ?_
      refine w_getR (gT_7 hb _) ?_
      refine w_iload rfl ?_
      refine w_iload rfl ?_
      refine w_push kc_0 ?_
      refine w_callS3I rfl (c_X4_darkAt ok16 (by omega) (by omega) (by omega) (by omega) (by omega) (by omega)) ?_
      rintro z18 t18 ⟨rfl, hp18_0⟩
      refine w_aload rfl ?_
      refine w_aload rfl ?_
      refine w_getR (gT_0 hb _) ?_
      refine w_iload rfl ?_
      refine w_iald (i := (s).toNat) (aiT_1 hb _) (by omega) (by omega) (aeT_1 hb _) ok16 (fun z19 hz19 hl19 hh19 => ?_)
      refine w_aload rfl ?_
      refine w_getR (gT_1 hb _) ?_
      refine w_iload rfl ?_
      refine w_iald (i := (s).toNat) (aiT_2 hb _) (by omega) (by omega) (aeT_2 hb _) ok16 (fun z20 hz20 hl20 hh20 => ?_)
      refine w_iload rfl ?_
      refine w_iload rfl ?_
      refine w_callS5I rfl (c_X4_darkOf_X (by have hl := fr16.len; omega) ok16 (by omega) (by omega) (by omega) (by omega) (by omega) (by omega) (by omega) (by omega)) ?_
      rintro z21 t21 ⟨ok21, fq21, hp21_0, hp21_1⟩
      have fr21 := fr16.then fq21 (by simp)
      refine w_iast (i := (z18).toNat) (aiT_8 hb _) rfl (by omega) (by omega) (aeT_8 hb _) ok21 (by omega) (fun t22 ht22 ok22 => ?_)
      have fr22 := fr21.uA ht22 (by simp)
      refine w_aload rfl ?_
      refine w_getR (gT_7 hb _) ?_
      refine w_iload rfl ?_
      refine w_iload rfl ?_
      refine w_push kc_1 ?_
      refine w_callS3I rfl (c_X4_darkAt ok22 (by omega) (by omega) (by omega) (by omega) (by omega) (by omega)) ?_
      rintro z23 t23 ⟨rfl, hp23_0⟩
      refine w_aload rfl ?_
      refine w_aload rfl ?_
      refine w_getR (gT_0 hb _) ?_
      refine w_iload rfl ?_
      refine w_iald (i := (s).toNat) (aiT_1 hb _) (by omega) (by omega) (aeT_1 hb _) ok22 (fun z24 hz24 hl24 hh24 => ?_)
      refine w_aload rfl ?_
      refine w_getR (gT_2 hb _) ?_
      refine w_iload rfl ?_
      refine w_iald (i := (s).toNat) (aiT_3 hb _) (by omega) (by omega) (aeT_3 hb _) ok22 (fun z25 hz25 hl25 hh25 => ?_)
      refine w_iload rfl ?_
      refine w_iload rfl ?_
      refine w_callS5I rfl (c_X4_darkOf_X (by have hl := fr22.len; omega) ok22 (by omega) (by omega) (by omega) (by omega) (by omega) (by omega) (by omega) (by omega)) ?_
      rintro z26 t26 ⟨ok26, fq26, hp26_0, hp26_1⟩
      have fr26 := fr22.then fq26 (by simp)
      refine w_iast (i := (z23).toNat) (aiT_8 hb _) rfl (by omega) (by omega) (aeT_8 hb _) ok26 (by omega) (fun t27 ht27 ok27 => ?_)
      have fr27 := fr26.uA ht27 (by simp)
      refine w_iinc (lv' := [some (.ref b), some (.int (jI s)), some (.ref (92 + 4 * j1)), some (.int (jI z15)), some (.int (jI (r + 1)))]) kc_1 rfl rfl ?_
      refine w_goto ?_
      exact ih1 _ (r + 1) t27 ok27 fr27 (by omega) (by omega) (by omega) (by omega)
  exact key1 5 _ 0 t ok fr (by omega) (by omega) (by omega) (by omega)
set_option maxRecDepth 100000 in
set_option maxHeartbeats 4000000 in
theorem c_X4_addStone {d : Nat} {t : TS} {b : Nat} {k l r : Int}  (hb : isT b) (ok : OK t) (q0 : 0 ≤ k) (q1 : k ≤ 5) (q2 : 0 ≤ l) (q3 : l ≤ 6) (q4 : 0 ≤ r) (q5 : r ≤ 6) (q6 : tI t b 10 ≤ 11) : CI (EX FU (d + 6)) 31 [.ref b, .int (jI k), .int (jI l), .int (jI r)] (mk t) (fun z t' => OK t' ∧ Fr [(b, 10), (b + 1, 100), (b + 2, 100), (b + 3, 100), (b + 4, 100), (b + 5, 100), (b + 8, 100)] t t' ∧ (z = tI t b 10) ∧ (tI t' b 10 = tI t b 10 + 1) ∧ (∀ i, tA t' (b + 1) i = if i = (tI t b 10).toNat then k else tA t (b + 1) i) ∧ (∀ i, tA t' (b + 2) i = if i = (tI t b 10).toNat then l else tA t (b + 2) i) ∧ (∀ i, tA t' (b + 3) i = if i = (tI t b 10).toNat then r else tA t (b + 3) i)) := by
  refine CI_ent (d := d + 5) (Bk := bX4_addStone) (nL := 5) rfl rfl rfl (Nat.le_of_ble_eq_true rfl) ?_
  show Rn _ 1000000 0 [some (.ref b), some (.int (jI k)), some (.int (jI l)), some (.int (jI r)), none] [] _ _
  have fr : Fr [(b, 10), (b + 1, 100), (b + 2, 100), (b + 3, 100), (b + 4, 100), (b + 5, 100), (b + 8, 100)] t t := Fr.rf _ _
  refine w_step rfl ?_
  refine w_aload rfl ?_
  refine w_getI (gT_10 hb _) (feT_10 hb) ok (fun z1 hz1 hl1 hh1 => ?_)
  refine w_istore (lv' := [some (.ref b), some (.int (jI k)), some (.int (jI l)), some (.int (jI r)), some (.int (jI z1))]) rfl ?_
  refine w_aload rfl ?_
  refine w_dupR ?_
  refine w_getI (gT_10 hb _) (feT_10 hb) ok (fun z2 hz2 hl2 hh2 => ?_)
  refine w_push kc_1 ?_
  refine w_add ?_
  refine w_putI (pT_10 hb _) (feT_10 hb) ok (by omega) (fun t3 ht3 ok3 => ?_)
  have fr3 := fr.uI ht3 (by simp)
  refine w_aload rfl ?_
  refine w_getR (gT_0 hb _) ?_
  refine w_iload rfl ?_
  refine w_iload rfl ?_
  refine w_iast (i := (z1).toNat) (aiT_1 hb _) rfl (by omega) (by omega) (aeT_1 hb _) ok3 (by omega) (fun t4 ht4 ok4 => ?_)
  have fr4 := fr3.uA ht4 (by simp)
  refine w_aload rfl ?_
  refine w_getR (gT_1 hb _) ?_
  refine w_iload rfl ?_
  refine w_iload rfl ?_
  refine w_iast (i := (z1).toNat) (aiT_2 hb _) rfl (by omega) (by omega) (aeT_2 hb _) ok4 (by omega) (fun t5 ht5 ok5 => ?_)
  have fr5 := fr4.uA ht5 (by simp)
  refine w_aload rfl ?_
  refine w_getR (gT_2 hb _) ?_
  refine w_iload rfl ?_
  refine w_iload rfl ?_
  refine w_iast (i := (z1).toNat) (aiT_3 hb _) rfl (by omega) (by omega) (aeT_3 hb _) ok5 (by omega) (fun t6 ht6 ok6 => ?_)
  have fr6 := fr5.uA ht6 (by simp)
  refine w_aload rfl ?_
  refine w_getR (gT_3 hb _) ?_
  refine w_iload rfl ?_
  refine w_push kc_12 ?_
  refine w_iast (i := (z1).toNat) (aiT_4 hb _) rfl (by omega) (by omega) (aeT_4 hb _) ok6 (by omega) (fun t7 ht7 ok7 => ?_)
  have fr7 := fr6.uA ht7 (by simp)
  refine w_aload rfl ?_
  refine w_getR (gT_4 hb _) ?_
  refine w_iload rfl ?_
  refine w_push kc_0 ?_
  refine w_iast (i := (z1).toNat) (aiT_5 hb _) rfl (by omega) (by omega) (aeT_5 hb _) ok7 (by omega) (fun t8 ht8 ok8 => ?_)
  have fr8 := fr7.uA ht8 (by simp)
  refine w_aload rfl ?_
  refine w_iload rfl ?_
  refine w_callV1V (ojT hb _).choose_spec rfl (c_X4_darken hb ok8 (by omega) (by omega)) ?_
  rintro t9 ⟨ok9, fq9⟩
  have fr9 := fr8.then fq9 (by simp)
  have fqd := fq9
  refine w_iload rfl ?_
  refine w_retI rfl ?_
  exact ⟨ok9, fr9, (by omega), (by rw [fqd.1 b 10 (by simp)]; subst_vars; simp [tI_uA, tI_uI]), (by intro i; rw [fqd.2.1 (b + 1) (by simp) i]; subst_vars; simp [tA_uA, tA_uI, tI_uI]), (by intro i; rw [fqd.2.1 (b + 2) (by simp) i]; subst_vars; simp [tA_uA, tA_uI, tI_uI]), (by intro i; rw [fqd.2.1 (b + 3) (by simp) i]; subst_vars; simp [tA_uA, tA_uI, tI_uI])⟩
