set_option maxRecDepth 100000 in
set_option maxHeartbeats 4000000 in
theorem c_X6_truth {d : Nat} {t : TS} {x : Int}  (ok : OK t) (q0 : -2147483648 ≤ x) (q1 : x ≤ 2147483647) : CI (EX FU (d + 1)) 66 [.int (jI x)] (mk t) (fun z t' => t = t' ∧ ((x = 0 ∧ z = 0) ∨ (¬ x = 0 ∧ z = 1))) := by
  refine CI_ent (d := d + 0) (Bk := bX6_truth) (nL := 1) rfl rfl rfl (Nat.le_of_ble_eq_true rfl) ?_
  show Rn _ 1000000 0 [some (.int (jI x))] [] _ _
  refine w_step rfl ?_
  refine w_iload rfl ?_
  refine w_ieq (by omega) (fun h1 => ?_) (fun h1 => ?_)
  · skip
    refine w_step rfl ?_
    refine w_push kc_0 ?_
    refine w_goto ?_
    refine w_step rfl ?_
    refine w_retI rfl ?_
    exact ⟨rfl, (by omega)⟩
  refine w_push kc_1 ?_
  refine w_goto ?_
  refine w_step rfl ?_
  refine w_retI rfl ?_
  exact ⟨rfl, (by omega)⟩
