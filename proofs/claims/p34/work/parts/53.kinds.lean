/-! ===== what the stones do, as functions ===== -/
def hvF (k l r : Int) : Int := if k = 1 then l + r + 2 else if k = 2 ∨ k = 4 then (l + r) / 2 else if k = 3 then 2 * (l + r + 2) else if k = 5 then 1 else l + r
def woF (k l r : Int) : Int := if k = 1 then 10 * l + r + 7 else if k = 2 then 99 - (10 * l + r) else if k = 3 then 2 * (10 * l + r + 7) else if k = 4 then 95 - (10 * l + r) else if k = 5 then 3 else 10 * l + r
def dkF (k p : Int) : Int := if k = 1 then max 0 (p - 10) else if k = 2 then 99 - p else if k = 3 then (max 0 (p - 10) + 60) / 2 else if k = 4 then min 99 (104 - p) else if k = 5 then 0 else p
theorem abv_s {x z : Int} (h : z = abv x) : (x = 3 ∧ z = 1) ∨ (x = 4 ∧ z = 2) ∨ (¬ x = 3 ∧ ¬ x = 4 ∧ z = 0) := by
  unfold abv at h
  split at h
  · omega
  · split at h <;> omega
def drF (z : Int) : Int := fZ (fun x y => (x.toUInt32 >>> (y.toUInt32 &&& Int32.toUInt32 31)).toInt32) z 8
def znF (z : Int) : Int := nrm (nrm (z * 1103515245) + 12345)
def zdF (z w : Int) : Int := if drF (znF (znF z)) % 100 < w then znF (znF (znF z)) else znF (znF z)
def zdsF : Nat → Int → Int → Int
  | 0, z, _ => z
  | n + 1, z, w => zdF (zdsF n z w) w
set_option maxRecDepth 100000 in
set_option maxHeartbeats 4000000 in
theorem c_X0_isOf {d : Nat} {t : TS} {k w : Int}  (ok : OK t) (q0 : 0 ≤ k) (q1 : k ≤ 5) (q2 : -2147483648 ≤ w) (q3 : w ≤ 2147483647) : CI (EX FU (d + 1)) 0 [.int (jI k), .int (jI w)] (mk t) (fun z t' => t = t' ∧ ((z = 0 ∧ ¬ (k = w ∨ w = 0 ∨ (w = 1 ∧ k = 3) ∨ (w = 2 ∧ k = 4))) ∨ (z = 1 ∧ (k = w ∨ w = 0 ∨ (w = 1 ∧ k = 3) ∨ (w = 2 ∧ k = 4))))) := by
  refine CI_ent (d := d + 0) (Bk := bX0_isOf) (nL := 3) rfl rfl rfl (Nat.le_of_ble_eq_true rfl) ?_
  show Rn _ 1000000 0 [some (.int (jI k)), some (.int (jI w)), none] [] _ _
  refine w_step rfl ?_
  refine w_pushV ?_
  refine w_iload rfl ?_
  refine w_above (by omega) (fun z1 hz1 hl1 hh1 => ?_)
  have hu1 := abv_s hz1
  refine w_istore (lv' := [some (.int (jI k)), some (.int (jI w)), some (.int (jI z1))]) rfl ?_
  refine w_iload rfl ?_
  refine w_iload rfl ?_
  refine w_ceq (by omega) (fun h2 => ?_) (fun h2 => ?_)
  · skip
    refine w_step rfl ?_
    refine w_push kc_1 ?_
    refine w_goto ?_
    refine w_step rfl ?_
    refine w_retI rfl ?_
    exact ⟨rfl, (by omega)⟩
  refine w_iload rfl ?_
  refine w_iload rfl ?_
  refine w_ceq (by omega) (fun h3 => ?_) (fun h3 => ?_)
  · skip
    refine w_step rfl ?_
    refine w_push kc_1 ?_
    refine w_goto ?_
    refine w_step rfl ?_
    refine w_retI rfl ?_
    exact ⟨rfl, (by omega)⟩
  refine w_pushV ?_
  refine w_iload rfl ?_
  refine w_above (by omega) (fun z4 hz4 hl4 hh4 => ?_)
  have hu4 := abv_s hz4
  refine w_iload rfl ?_
  refine w_cne (by omega) (fun h5 => ?_) (fun h5 => ?_)
  · skip
    refine w_step rfl ?_
    refine w_push kc_0 ?_
    refine w_goto ?_
    refine w_step rfl ?_
    refine w_retI rfl ?_
    exact ⟨rfl, (by omega)⟩
  refine w_goto ?_
  refine w_step rfl ?_
  refine w_push kc_1 ?_
  refine w_goto ?_
  refine w_step rfl ?_
  refine w_retI rfl ?_
  exact ⟨rfl, (by omega)⟩
set_option maxRecDepth 100000 in
set_option maxHeartbeats 4000000 in
theorem c_X0_dark {d : Nat} {t : TS} {k p : Int}  (ok : OK t) (q0 : -2147483648 ≤ k) (q1 : k ≤ 2147483647) (q2 : 0 ≤ p) (q3 : p ≤ 99) : CI (EX FU (d + 1)) 1 [.int (jI k), .int (jI p)] (mk t) (fun z t' => t = t' ∧ (z = dkF k p) ∧ (0 ≤ z) ∧ (z ≤ 99)) := by
  refine CI_ent (d := d + 0) (Bk := bX0_dark) (nL := 4) rfl rfl rfl (Nat.le_of_ble_eq_true rfl) ?_
  show Rn _ 1000000 0 [some (.int (jI k)), some (.int (jI p)), none, none] [] _ _
  refine w_step rfl ?_
  refine w_push kc_0 ?_
  refine w_iload rfl ?_
  refine w_push kc_10 ?_
  refine w_sub ?_
  refine w_max rfl (by omega) ?_
  refine w_istore (lv' := [some (.int (jI k)), some (.int (jI p)), some (.int (jI (max 0 (p - 10)))), none]) rfl ?_
  refine w_push kc_99 ?_
  refine w_iload rfl ?_
  refine w_sub ?_
  refine w_istore (lv' := [some (.int (jI k)), some (.int (jI p)), some (.int (jI (max 0 (p - 10)))), some (.int (jI (99 - p)))]) rfl ?_
  refine w_iload rfl ?_
  have hs1 : k = 1 ∨ k = 2 ∨ k = 3 ∨ k = 4 ∨ k = 5 ∨ (k < 1 ∨ 1 + 5 ≤ k) := (by omega)
  rcases hs1 with hs1 | hs1 | hs1 | hs1 | hs1 | hs1
  · refine w_sw (n := 1) (tsw_at hs1 (by decide)) ?_
    refine w_step rfl ?_
    refine w_iload rfl ?_
    refine w_retI rfl ?_
    exact ⟨rfl, (by unfold dkF; (repeat' split) <;> omega), (by omega), (by omega)⟩
  · refine w_sw (n := 3) (tsw_at hs1 (by decide)) ?_
    refine w_step rfl ?_
    refine w_iload rfl ?_
    refine w_retI rfl ?_
    exact ⟨rfl, (by unfold dkF; (repeat' split) <;> omega), (by omega), (by omega)⟩
  · refine w_sw (n := 2) (tsw_at hs1 (by decide)) ?_
    refine w_step rfl ?_
    refine w_iload rfl ?_
    refine w_push kc_60 ?_
    refine w_add ?_
    refine w_push kc_2 ?_
    refine w_div (by omega) ?_
    refine w_retI rfl ?_
    exact ⟨rfl, (by unfold dkF; (repeat' split) <;> omega), (by omega), (by omega)⟩
  · refine w_sw (n := 4) (tsw_at hs1 (by decide)) ?_
    refine w_step rfl ?_
    refine w_push kc_99 ?_
    refine w_iload rfl ?_
    refine w_push kc_5 ?_
    refine w_add ?_
    refine w_min rfl (by omega) ?_
    refine w_retI rfl ?_
    exact ⟨rfl, (by unfold dkF; (repeat' split) <;> omega), (by omega), (by omega)⟩
  · refine w_sw (n := 5) (tsw_at hs1 (by decide)) ?_
    refine w_step rfl ?_
    refine w_push kc_0 ?_
    refine w_retI rfl ?_
    exact ⟨rfl, (by unfold dkF; (repeat' split) <;> omega), (by omega), (by omega)⟩
  · refine w_sw (n := 6) (tsw_df (m := 5) rfl (by omega) (by omega)) ?_
    refine w_step rfl ?_
    refine w_iload rfl ?_
    refine w_retI rfl ?_
    exact ⟨rfl, (by unfold dkF; (repeat' split) <;> omega), (by omega), (by omega)⟩
set_option maxRecDepth 100000 in
set_option maxHeartbeats 4000000 in
theorem c_X0_heavy {d : Nat} {t : TS} {k l r : Int}  (ok : OK t) (q0 : -2147483648 ≤ k) (q1 : k ≤ 2147483647) (q2 : 0 ≤ l) (q3 : l ≤ 6) (q4 : 0 ≤ r) (q5 : r ≤ 6) : CI (EX FU (d + 1)) 2 [.int (jI k), .int (jI l), .int (jI r)] (mk t) (fun z t' => t = t' ∧ (z = hvF k l r) ∧ (0 ≤ z) ∧ (z ≤ 28)) := by
  refine CI_ent (d := d + 0) (Bk := bX0_heavy) (nL := 4) rfl rfl rfl (Nat.le_of_ble_eq_true rfl) ?_
  show Rn _ 1000000 0 [some (.int (jI k)), some (.int (jI l)), some (.int (jI r)), none] [] _ _
  refine w_step rfl ?_
  refine w_iload rfl ?_
  refine w_iload rfl ?_
  refine w_add ?_
  refine w_istore (lv' := [some (.int (jI k)), some (.int (jI l)), some (.int (jI r)), some (.int (jI (l + r)))]) rfl ?_
  refine w_iload rfl ?_
  have hs1 : k = 1 ∨ k = 2 ∨ k = 4 ∨ k = 3 ∨ k = 5 ∨ (k < 1 ∨ 1 + 5 ≤ k) := (by omega)
  rcases hs1 with hs1 | hs1 | hs1 | hs1 | hs1 | hs1
  · refine w_sw (n := 1) (tsw_at hs1 (by decide)) ?_
    refine w_step rfl ?_
    refine w_iload rfl ?_
    refine w_push kc_2 ?_
    refine w_add ?_
    refine w_retI rfl ?_
    exact ⟨rfl, (by unfold hvF; (repeat' split) <;> omega), (by omega), (by omega)⟩
  · refine w_sw (n := 3) (tsw_at hs1 (by decide)) ?_
    refine w_step rfl ?_
    refine w_iload rfl ?_
    refine w_push kc_2 ?_
    refine w_div (by omega) ?_
    refine w_retI rfl ?_
    exact ⟨rfl, (by unfold hvF; (repeat' split) <;> omega), (by omega), (by omega)⟩
  · refine w_sw (n := 3) (tsw_at hs1 (by decide)) ?_
    refine w_step rfl ?_
    refine w_iload rfl ?_
    refine w_push kc_2 ?_
    refine w_div (by omega) ?_
    refine w_retI rfl ?_
    exact ⟨rfl, (by unfold hvF; (repeat' split) <;> omega), (by omega), (by omega)⟩
  · refine w_sw (n := 2) (tsw_at hs1 (by decide)) ?_
    refine w_step rfl ?_
    refine w_push kc_2 ?_
    refine w_iload rfl ?_
    refine w_push kc_2 ?_
    refine w_add ?_
    refine w_mul ?_
    refine w_retI rfl ?_
    exact ⟨rfl, (by unfold hvF; (repeat' split) <;> omega), (by omega), (by omega)⟩
  · refine w_sw (n := 4) (tsw_at hs1 (by decide)) ?_
    refine w_step rfl ?_
    refine w_push kc_1 ?_
    refine w_retI rfl ?_
    exact ⟨rfl, (by unfold hvF; (repeat' split) <;> omega), (by omega), (by omega)⟩
  · refine w_sw (n := 5) (tsw_df (m := 5) rfl (by omega) (by omega)) ?_
    refine w_step rfl ?_
    refine w_iload rfl ?_
    refine w_retI rfl ?_
    exact ⟨rfl, (by unfold hvF; (repeat' split) <;> omega), (by omega), (by omega)⟩
set_option maxRecDepth 100000 in
set_option maxHeartbeats 4000000 in
theorem c_X0_worth {d : Nat} {t : TS} {k l r : Int}  (ok : OK t) (q0 : -2147483648 ≤ k) (q1 : k ≤ 2147483647) (q2 : 0 ≤ l) (q3 : l ≤ 6) (q4 : 0 ≤ r) (q5 : r ≤ 6) : CI (EX FU (d + 1)) 3 [.int (jI k), .int (jI l), .int (jI r)] (mk t) (fun z t' => t = t' ∧ (z = woF k l r) ∧ (0 ≤ z) ∧ (z ≤ 146)) := by
  refine CI_ent (d := d + 0) (Bk := bX0_worth) (nL := 4) rfl rfl rfl (Nat.le_of_ble_eq_true rfl) ?_
  show Rn _ 1000000 0 [some (.int (jI k)), some (.int (jI l)), some (.int (jI r)), none] [] _ _
  refine w_step rfl ?_
  refine w_push kc_10 ?_
  refine w_iload rfl ?_
  refine w_mul ?_
  refine w_iload rfl ?_
  refine w_add ?_
  refine w_istore (lv' := [some (.int (jI k)), some (.int (jI l)), some (.int (jI r)), some (.int (jI ((10 * l) + r)))]) rfl ?_
  refine w_iload rfl ?_
  have hs1 : k = 1 ∨ k = 2 ∨ k = 3 ∨ k = 4 ∨ k = 5 ∨ (k < 1 ∨ 1 + 5 ≤ k) := (by omega)
  rcases hs1 with hs1 | hs1 | hs1 | hs1 | hs1 | hs1
  · refine w_sw (n := 1) (tsw_at hs1 (by decide)) ?_
    refine w_step rfl ?_
    refine w_iload rfl ?_
    refine w_push kc_7 ?_
    refine w_add ?_
    refine w_retI rfl ?_
    exact ⟨rfl, (by unfold woF; (repeat' split) <;> omega), (by omega), (by omega)⟩
  · refine w_sw (n := 3) (tsw_at hs1 (by decide)) ?_
    refine w_step rfl ?_
    refine w_push kc_99 ?_
    refine w_iload rfl ?_
    refine w_sub ?_
    refine w_retI rfl ?_
    exact ⟨rfl, (by unfold woF; (repeat' split) <;> omega), (by omega), (by omega)⟩
  · refine w_sw (n := 2) (tsw_at hs1 (by decide)) ?_
    refine w_step rfl ?_
    refine w_push kc_2 ?_
    refine w_iload rfl ?_
    refine w_push kc_7 ?_
    refine w_add ?_
    refine w_mul ?_
    refine w_retI rfl ?_
    exact ⟨rfl, (by unfold woF; (repeat' split) <;> omega), (by omega), (by omega)⟩
  · refine w_sw (n := 4) (tsw_at hs1 (by decide)) ?_
    refine w_step rfl ?_
    refine w_push kc_99 ?_
    refine w_iload rfl ?_
    refine w_sub ?_
    refine w_push kc_4 ?_
    refine w_sub ?_
    refine w_retI rfl ?_
    exact ⟨rfl, (by unfold woF; (repeat' split) <;> omega), (by omega), (by omega)⟩
  · refine w_sw (n := 5) (tsw_at hs1 (by decide)) ?_
    refine w_step rfl ?_
    refine w_push kc_3 ?_
    refine w_retI rfl ?_
    exact ⟨rfl, (by unfold woF; (repeat' split) <;> omega), (by omega), (by omega)⟩
  · refine w_sw (n := 6) (tsw_df (m := 5) rfl (by omega) (by omega)) ?_
    refine w_step rfl ?_
    refine w_iload rfl ?_
    refine w_retI rfl ?_
    exact ⟨rfl, (by unfold woF; (repeat' split) <;> omega), (by omega), (by omega)⟩
set_option maxRecDepth 100000 in
set_option maxHeartbeats 4000000 in
theorem c_X8_within {d : Nat} {t : TS} {v l h : Int}  (ok : OK t) (q0 : -2147483648 ≤ v) (q1 : v ≤ 2147483647) (q2 : -2147483648 ≤ l) (q3 : l ≤ 2147483647) (q4 : -2147483648 ≤ h) (q5 : h ≤ 2147483647) : CI (EX FU (d + 1)) 123 [.int (jI v), .int (jI l), .int (jI h)] (mk t) (fun z t' => t = t' ∧ ((z = 0 ∧ ¬ (l ≤ v ∧ v ≤ h)) ∨ (z = 1 ∧ (l ≤ v ∧ v ≤ h)))) := by
  refine CI_ent (d := d + 0) (Bk := bX8_within) (nL := 3) rfl rfl rfl (Nat.le_of_ble_eq_true rfl) ?_
  show Rn _ 1000000 0 [some (.int (jI v)), some (.int (jI l)), some (.int (jI h))] [] _ _
  refine w_step rfl ?_
  refine w_iload rfl ?_
  refine w_iload rfl ?_
  refine w_clt (by omega) (fun h1 => ?_) (fun h1 => ?_)
  · skip
    refine w_step rfl ?_
    refine w_push kc_0 ?_
    refine w_goto ?_
    refine w_step rfl ?_
    refine w_retI rfl ?_
    exact ⟨rfl, (by omega)⟩
  refine w_iload rfl ?_
  refine w_iload rfl ?_
  refine w_cgt (by omega) (fun h2 => ?_) (fun h2 => ?_)
  · skip
    refine w_step rfl ?_
    refine w_push kc_0 ?_
    refine w_goto ?_
    refine w_step rfl ?_
    refine w_retI rfl ?_
    exact ⟨rfl, (by omega)⟩
  refine w_push kc_1 ?_
  refine w_goto ?_
  refine w_step rfl ?_
  refine w_retI rfl ?_
  exact ⟨rfl, (by omega)⟩
set_option maxRecDepth 100000 in
set_option maxHeartbeats 4000000 in
theorem c_X8_clamp {d : Nat} {t : TS} {v l h : Int}  (ok : OK t) (q0 : -2147483648 ≤ v) (q1 : v ≤ 2147483647) (q2 : -2147483648 ≤ l) (q3 : l ≤ 2147483647) (q4 : -2147483648 ≤ h) (q5 : h ≤ 2147483647) : CI (EX FU (d + 1)) 124 [.int (jI v), .int (jI l), .int (jI h)] (mk t) (fun z t' => t = t' ∧ (z = max l (min h v)) ∧ (-2147483648 ≤ z) ∧ (z ≤ 2147483647)) := by
  refine CI_ent (d := d + 0) (Bk := bX8_clamp) (nL := 3) rfl rfl rfl (Nat.le_of_ble_eq_true rfl) ?_
  show Rn _ 1000000 0 [some (.int (jI v)), some (.int (jI l)), some (.int (jI h))] [] _ _
  refine w_step rfl ?_
  refine w_iload rfl ?_
  refine w_iload rfl ?_
  refine w_iload rfl ?_
  refine w_min rfl (by omega) ?_
  refine w_max rfl (by omega) ?_
  refine w_retI rfl ?_
  exact ⟨rfl, (by omega), (by omega), (by omega)⟩
set_option maxRecDepth 100000 in
set_option maxHeartbeats 4000000 in
theorem c_X8_stoneOrNone {d : Nat} {t : TS} {h : Int}  (ok : OK t) (q0 : -1 ≤ h) (q1 : h ≤ 11) : CI (EX FU (d + 1)) 125 [.int (jI h)] (mk t) (fun z t' => t = t' ∧ ((h = -1 ∧ z = -1000000005) ∨ (¬ h = -1 ∧ z = h))) := by
  refine CI_ent (d := d + 0) (Bk := bX8_stoneOrNone) (nL := 1) rfl rfl rfl (Nat.le_of_ble_eq_true rfl) ?_
  show Rn _ 1000000 0 [some (.int (jI h))] [] _ _
  refine w_step rfl ?_
  refine w_iload rfl ?_
  refine w_push kc_m1 ?_
  refine w_cne (by omega) (fun h1 => ?_) (fun h1 => ?_)
  · skip
    refine w_step rfl ?_
    refine w_iload rfl ?_
    refine w_goto ?_
    refine w_step rfl ?_
    refine w_retI rfl ?_
    exact ⟨rfl, (by omega)⟩
  refine w_push kc_m1000000005 ?_
  refine w_goto ?_
  refine w_step rfl ?_
  refine w_retI rfl ?_
  exact ⟨rfl, (by omega)⟩
set_option maxRecDepth 100000 in
set_option maxHeartbeats 4000000 in
theorem c_X8_isPlace {d : Nat} {t : TS} {p : Int}  (ok : OK t) (q0 : -2147483648 ≤ p) (q1 : p ≤ 2147483647) : CI (EX FU (d + 2)) 120 [.int (jI p)] (mk t) (fun z t' => t = t' ∧ ((z = 0 ∧ ¬ (0 ≤ p ∧ p ≤ 11)) ∨ (z = 1 ∧ (0 ≤ p ∧ p ≤ 11)))) := by
  refine CI_ent (d := d + 1) (Bk := bX8_isPlace) (nL := 1) rfl rfl rfl (Nat.le_of_ble_eq_true rfl) ?_
  show Rn _ 1000000 0 [some (.int (jI p))] [] _ _
  refine w_step rfl ?_
  refine w_iload rfl ?_
  refine w_push kc_0 ?_
  refine w_push kc_11 ?_
  refine w_callS3I rfl (c_X8_within ok (by omega) (by omega) (by omega) (by omega) (by omega) (by omega)) ?_
  rintro z1 t1 ⟨rfl, hp1_0⟩
  rcases hp1_0 with ⟨rfl, hp1_0⟩ | ⟨rfl, hp1_0⟩
  · skip
    refine w_retI rfl ?_
    exact ⟨rfl, (by omega)⟩
  refine w_retI rfl ?_
  exact ⟨rfl, (by omega)⟩
set_option maxRecDepth 100000 in
set_option maxHeartbeats 4000000 in
theorem c_X8_isSheet {d : Nat} {t : TS} {p : Int}  (ok : OK t) (q0 : -2147483648 ≤ p) (q1 : p ≤ 2147483647) : CI (EX FU (d + 2)) 121 [.int (jI p)] (mk t) (fun z t' => t = t' ∧ ((z = 0 ∧ ¬ (0 ≤ p ∧ p ≤ 3)) ∨ (z = 1 ∧ (0 ≤ p ∧ p ≤ 3)))) := by
  refine CI_ent (d := d + 1) (Bk := bX8_isSheet) (nL := 1) rfl rfl rfl (Nat.le_of_ble_eq_true rfl) ?_
  show Rn _ 1000000 0 [some (.int (jI p))] [] _ _
  refine w_step rfl ?_
  refine w_iload rfl ?_
  refine w_push kc_0 ?_
  refine w_push kc_3 ?_
  refine w_callS3I rfl (c_X8_within ok (by omega) (by omega) (by omega) (by omega) (by omega) (by omega)) ?_
  rintro z1 t1 ⟨rfl, hp1_0⟩
  rcases hp1_0 with ⟨rfl, hp1_0⟩ | ⟨rfl, hp1_0⟩
  · skip
    refine w_retI rfl ?_
    exact ⟨rfl, (by omega)⟩
  refine w_retI rfl ?_
  exact ⟨rfl, (by omega)⟩
set_option maxRecDepth 100000 in
set_option maxHeartbeats 4000000 in
theorem c_X8_isSlot {d : Nat} {t : TS} {p : Int}  (ok : OK t) (q0 : -2147483648 ≤ p) (q1 : p ≤ 2147483647) : CI (EX FU (d + 2)) 122 [.int (jI p)] (mk t) (fun z t' => t = t' ∧ ((z = 0 ∧ ¬ (0 ≤ p ∧ p ≤ 4)) ∨ (z = 1 ∧ (0 ≤ p ∧ p ≤ 4)))) := by
  refine CI_ent (d := d + 1) (Bk := bX8_isSlot) (nL := 1) rfl rfl rfl (Nat.le_of_ble_eq_true rfl) ?_
  show Rn _ 1000000 0 [some (.int (jI p))] [] _ _
  refine w_step rfl ?_
  refine w_iload rfl ?_
  refine w_push kc_0 ?_
  refine w_push kc_4 ?_
  refine w_callS3I rfl (c_X8_within ok (by omega) (by omega) (by omega) (by omega) (by omega) (by omega)) ?_
  rintro z1 t1 ⟨rfl, hp1_0⟩
  rcases hp1_0 with ⟨rfl, hp1_0⟩ | ⟨rfl, hp1_0⟩
  · skip
    refine w_retI rfl ?_
    exact ⟨rfl, (by omega)⟩
  refine w_retI rfl ?_
  exact ⟨rfl, (by omega)⟩
set_option maxRecDepth 100000 in
set_option maxHeartbeats 4000000 in
theorem c_X8_isStone {d : Nat} {t : TS} {s : Int}  (ok : OK t) (q0 : -2147483648 ≤ s) (q1 : s ≤ 2147483647) : CI (EX FU (d + 2)) 119 [.ref 0, .int (jI s)] (mk t) (fun z t' => t = t' ∧ ((z = 0 ∧ ¬ (0 ≤ s ∧ s ≤ tI t 1 10 - 1)) ∨ (z = 1 ∧ (0 ≤ s ∧ s ≤ tI t 1 10 - 1)))) := by
  refine CI_ent (d := d + 1) (Bk := bX8_isStone) (nL := 2) rfl rfl rfl (Nat.le_of_ble_eq_true rfl) ?_
  show Rn _ 1000000 0 [some (.ref 0), some (.int (jI s))] [] _ _
  refine w_step rfl ?_
  refine w_iload rfl ?_
  refine w_push kc_0 ?_
  refine w_aload rfl ?_
  refine w_getR (g_0_0 _) ?_
  refine w_getI (g_1_10 _) fe_1_10 ok (fun z1 hz1 hl1 hh1 => ?_)
  refine w_push kc_1 ?_
  refine w_sub ?_
  refine w_callS3I rfl (c_X8_within ok (by omega) (by omega) (by omega) (by omega) (by omega) (by omega)) ?_
  rintro z2 t2 ⟨rfl, hp2_0⟩
  rcases hp2_0 with ⟨rfl, hp2_0⟩ | ⟨rfl, hp2_0⟩
  · skip
    refine w_retI rfl ?_
    exact ⟨rfl, (by omega)⟩
  refine w_retI rfl ?_
  exact ⟨rfl, (by omega)⟩
set_option maxRecDepth 100000 in
set_option maxHeartbeats 4000000 in
theorem c_J6_bitCount_0f7a4 {d : Nat} {t : TS} {x : Int}  (ok : OK t) (q0 : -2147483648 ≤ x) (q1 : x ≤ 2147483647) : CI (EX FU (d + 1)) 225 [.int (jI x)] (mk t) (fun z t' => t = t' ∧ (-2147483648 ≤ z) ∧ (z ≤ 2147483647)) := by
  refine CI_ent (d := d + 0) (Bk := bJ6_bitCount_0f7a4) (nL := 1) rfl rfl rfl (Nat.le_of_ble_eq_true rfl) ?_
  show Rn _ 1000000 0 [some (.int (jI x))] [] _ _
  refine w_step rfl ?_
  refine w_iload rfl ?_
  refine w_iload rfl ?_
  refine w_push kc_1 ?_
  refine w_bin (fun z1 hz1 hl1 hh1 => ?_)
  refine w_push kc_1431655765 ?_
  refine w_bin (fun z2 hz2 hl2 hh2 => ?_)
  refine w_subW (fun z3 hz3 hl3 hh3 => ?_)
  refine w_istore (lv' := [some (.int (jI z3))]) rfl ?_
  refine w_iload rfl ?_
  refine w_push kc_858993459 ?_
  refine w_bin (fun z4 hz4 hl4 hh4 => ?_)
  refine w_iload rfl ?_
  refine w_push kc_2 ?_
  refine w_bin (fun z5 hz5 hl5 hh5 => ?_)
  refine w_push kc_858993459 ?_
  refine w_bin (fun z6 hz6 hl6 hh6 => ?_)
  refine w_addW (fun z7 hz7 hl7 hh7 => ?_)
  refine w_istore (lv' := [some (.int (jI z7))]) rfl ?_
  refine w_iload rfl ?_
  refine w_iload rfl ?_
  refine w_push kc_4 ?_
  refine w_bin (fun z8 hz8 hl8 hh8 => ?_)
  refine w_addW (fun z9 hz9 hl9 hh9 => ?_)
  refine w_push kc_252645135 ?_
  refine w_bin (fun z10 hz10 hl10 hh10 => ?_)
  refine w_istore (lv' := [some (.int (jI z10))]) rfl ?_
  refine w_iload rfl ?_
  refine w_iload rfl ?_
  refine w_push kc_8 ?_
  refine w_bin (fun z11 hz11 hl11 hh11 => ?_)
  have hu11 := ah_ushr8 hz11
  refine w_addW (fun z12 hz12 hl12 hh12 => ?_)
  refine w_istore (lv' := [some (.int (jI z12))]) rfl ?_
  refine w_iload rfl ?_
  refine w_iload rfl ?_
  refine w_push kc_16 ?_
  refine w_bin (fun z13 hz13 hl13 hh13 => ?_)
  refine w_addW (fun z14 hz14 hl14 hh14 => ?_)
  refine w_istore (lv' := [some (.int (jI z14))]) rfl ?_
  refine w_iload rfl ?_
  refine w_push kc_63 ?_
  refine w_bin (fun z15 hz15 hl15 hh15 => ?_)
  refine w_retI rfl ?_
  exact ⟨rfl, (by omega), (by omega)⟩
