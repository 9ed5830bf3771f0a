def dzF : Nat → Int → Int
  | 0, z => z
  | n + 1, z => znF (znF (znF (dzF n z)))
theorem deal_step {f g h F : Nat → Int} {n i v : Int} {M : Nat} (hn : 0 ≤ n) (hi : 0 ≤ i) (hM : M = (n + i).toNat) (h1 : ∀ m : Nat, g m = if n ≤ (m : Int) ∧ (m : Int) < n + i then F (m - n.toNat) else f m) (h2 : ∀ m : Nat, h m = if m = M then v else g m) (hv : v = F i.toNat) : ∀ m : Nat, h m = if n ≤ (m : Int) ∧ (m : Int) < n + (i + 1) then F (m - n.toNat) else f m := by
  intro m
  rw [h2 m]
  by_cases e : m = M
  · rw [if_pos e, if_pos (by omega), hv]
    congr 1
    omega
  · rw [if_neg e, h1 m]
    by_cases c : n ≤ (m : Int) ∧ (m : Int) < n + i
    · rw [if_pos c, if_pos (by omega)]
    · rw [if_neg c, if_neg (by omega)]
def kdF (z : Int) (j : Nat) : Int := drF (znF (dzF j z)) % 6
def ldF (z : Int) (j : Nat) : Int := drF (znF (znF (dzF j z))) % 7
def rdF (z : Int) (j : Nat) : Int := drF (znF (znF (znF (dzF j z)))) % 7
def prF (sz : Int) (rw w : Nat → Int) (m : Nat) : Int := if (m : Int) < sz ∧ ¬ rw m = -1000000005 then max 0 (min 99 (rw m)) else w m
def prC (sz : Int) (rw w : Nat → Int) : Nat → Int
  | 0 => 0
  | n + 1 => prC sz rw w n + (if prF sz rw w n = w n then 0 else 1)
theorem pour_c {sz c : Int} {rw w : Nat → Int} (hc : 0 ≤ c) : prC sz rw w (c + 1).toNat = prC sz rw w c.toNat + (if prF sz rw w c.toNat = w c.toNat then 0 else 1) := by
  rw [show (c + 1).toNat = c.toNat + 1 by omega]
  rfl
theorem pour_n {sz c acc : Int} {rw w : Nat → Int} (hc : 0 ≤ c) (h : ¬ (c < sz ∧ ¬ rw c.toNat = -1000000005)) (ha : acc = prC sz rw w c.toNat) : acc = prC sz rw w (c + 1).toNat := by
  have e : prF sz rw w c.toNat = w c.toNat := by
    unfold prF
    rw [if_neg (by omega)]
  rw [pour_c hc, if_pos e]
  omega
theorem pour_y {sz c acc v x : Int} {rw w : Nat → Int} (hc : 0 ≤ c) (h : c < sz ∧ ¬ rw c.toNat = -1000000005) (hv : v = max 0 (min 99 (rw c.toNat))) (ha : acc = prC sz rw w c.toNat) (hx : (v = w c.toNat ∧ x = 0) ∨ (¬ v = w c.toNat ∧ x = 1)) : acc + x = prC sz rw w (c + 1).toNat := by
  have e : prF sz rw w c.toNat = v := by
    unfold prF
    rw [if_pos (by omega), hv]
  rw [pour_c hc, e, ha]
  split <;> omega
theorem pour_wn {sz c : Int} {rw w g : Nat → Int} (hc : 0 ≤ c) (h : ¬ (c < sz ∧ ¬ rw c.toNat = -1000000005)) (hg : ∀ m : Nat, g m = if (m : Int) < c then prF sz rw w m else w m) : ∀ m : Nat, g m = if (m : Int) < c + 1 then prF sz rw w m else w m := by
  intro m
  rw [hg m]
  by_cases e : m = c.toNat
  · subst e
    rw [if_neg (by omega), if_pos (by omega)]
    unfold prF
    rw [if_neg (by omega)]
  · by_cases q : (m : Int) < c
    · rw [if_pos q, if_pos (by omega)]
    · rw [if_neg q, if_neg (by omega)]
theorem pour_wy {sz c v : Int} {rw w g h : Nat → Int} (hc : 0 ≤ c) (hn : c < sz ∧ ¬ rw c.toNat = -1000000005) (hv : v = max 0 (min 99 (rw c.toNat))) (hg : ∀ m : Nat, g m = if (m : Int) < c then prF sz rw w m else w m) (hh : ∀ m : Nat, h m = if m = c.toNat then v else g m) : ∀ m : Nat, h m = if (m : Int) < c + 1 then prF sz rw w m else w m := by
  intro m
  rw [hh m]
  by_cases e : m = c.toNat
  · subst e
    rw [if_pos rfl, if_pos (by omega)]
    unfold prF
    rw [if_pos (by omega), hv]
  · rw [if_neg e, hg m]
    by_cases q : (m : Int) < c
    · rw [if_pos q, if_pos (by omega)]
    · rw [if_neg q, if_neg (by omega)]
set_option maxRecDepth 100000 in
set_option maxHeartbeats 4000000 in
theorem c_X7_behindDays_tab {d : Nat} {t : TS} {n : Int}  (ok : OK t) (q0 : 0 ≤ n) (q1 : n ≤ 1000) : CR (EX FU (d + 6)) 68 [.ref 23, .ref 1, .int (jI n)] (mk t) (fun z t' => OK t' ∧ Fr [(24, 10), (24, 11), (24, 12), (24, 13), (24, 14), (25, 100), (26, 100), (27, 100), (28, 100), (29, 100), (30, 100), (31, 100), (32, 100), (34, 100), (33, 101)] t t' ∧ (z = some 24)) := by
  refine CR_ent (d := d + 5) (Bk := bX7_behindDays) (nL := 3) rfl rfl rfl (Nat.le_of_ble_eq_true rfl) ?_
  show Rn _ 1000000 0 [some (.ref 23), some (.ref 1), some (.int (jI n))] [] _ _
  have fr : Fr [(24, 10), (24, 11), (24, 12), (24, 13), (24, 14), (25, 100), (26, 100), (27, 100), (28, 100), (29, 100), (30, 100), (31, 100), (32, 100), (34, 100), (33, 101)] t t := Fr.rf _ _
  refine w_step rfl ?_
  refine w_aload rfl ?_
  refine w_getR (g_23_0 _) ?_
  refine w_aload rfl ?_
  refine w_callV1V (oj_24 _).choose_spec rfl (c_X4_become_24_1 ok) ?_
  rintro t1 ⟨ok1, fq1, hp1_0, hp1_1, hp1_2, hp1_3, hp1_4, hp1_5, hp1_6, hp1_7, hp1_8, hp1_9, hp1_10, hp1_11, hp1_12, hp1_13, hp1_14⟩
  have fr1 := fr.then fq1 (by simp)
  refine w_aload rfl ?_
  refine w_getR (g_23_0 _) ?_
  refine w_iload rfl ?_
  refine w_callV1V (oj_24 _).choose_spec rfl (c_X4_passDays isT24 ok1 (by omega) (by omega) (by omega)) ?_
  rintro t2 ⟨ok2, fq2, hp2_0, hp2_1⟩
  have fr2 := fr1.then fq2 (by simp)
  refine w_aload rfl ?_
  refine w_getR (g_23_0 _) ?_
  refine w_retR rfl ?_
  exact ⟨ok2, fr2, rfl⟩
set_option maxRecDepth 100000 in
set_option maxHeartbeats 4000000 in
theorem c_X7_daysTillLaid {d : Nat} {t : TS}  (ok : OK t) : CI (EX FU (d + 5)) 69 [.ref 23, .ref 1] (mk t) (fun z t' => OK t' ∧ Fr [(24, 10), (24, 11), (24, 12), (24, 13), (24, 14), (25, 100), (26, 100), (27, 100), (28, 100), (29, 100), (30, 100), (31, 100), (32, 100), (34, 100), (33, 101)] t t' ∧ (-2147483648 ≤ z) ∧ (z ≤ 2147483647)) := by
  refine CI_ent (d := d + 4) (Bk := bX7_daysTillLaid) (nL := 4) rfl rfl rfl (Nat.le_of_ble_eq_true rfl) ?_
  show Rn _ 1000000 0 [some (.ref 23), some (.ref 1), none, none] [] _ _
  have fr : Fr [(24, 10), (24, 11), (24, 12), (24, 13), (24, 14), (25, 100), (26, 100), (27, 100), (28, 100), (29, 100), (30, 100), (31, 100), (32, 100), (34, 100), (33, 101)] t t := Fr.rf _ _
  refine w_step rfl ?_
  refine w_aload rfl ?_
  refine w_getR (g_23_0 _) ?_
  refine w_aload rfl ?_
  refine w_callV1V (oj_24 _).choose_spec rfl (c_X4_become_24_1 ok) ?_
  rintro t1 ⟨ok1, fq1, hp1_0, hp1_1, hp1_2, hp1_3, hp1_4, hp1_5, hp1_6, hp1_7, hp1_8, hp1_9, hp1_10, hp1_11, hp1_12, hp1_13, hp1_14⟩
  have fr1 := fr.then fq1 (by simp)
  refine w_push kc_0 ?_
  refine w_istore (lv' := [some (.ref 23), some (.ref 1), some (.int (jI 0)), none]) rfl ?_
  refine w_goto ?_
  have key1 : ∀ (n1 M1 : Nat) (n : Int) (o3 : Option Int) (t2 : TS), OK t2 → Fr [(24, 10), (24, 11), (24, 12), (24, 13), (24, 14), (25, 100), (26, 100), (27, 100), (28, 100), (29, 100), (30, 100), (31, 100), (32, 100), (34, 100), (33, 101)] t t2 → (0 ≤ n) → (n ≤ 201) → 201 - n < (n1 : Int) → 60 * n1 + (1000) ≤ M1 → Rn (bX7_daysTillLaid (EX FU (d + 4))) M1 1 [some (.ref 23), some (.ref 1), some (.int (jI n)), dv o3] [] (mk t2) (PI (fun z t' => OK t' ∧ Fr [(24, 10), (24, 11), (24, 12), (24, 13), (24, 14), (25, 100), (26, 100), (27, 100), (28, 100), (29, 100), (30, 100), (31, 100), (32, 100), (34, 100), (33, 101)] t t' ∧ (-2147483648 ≤ z) ∧ (z ≤ 2147483647))) := by
    intro n1
    induction n1 with
    | zero => intro M1 n o3 t2 ok2 fr2 i1_0 i1_1 v1 f1; exfalso; omega
    | succ n1 ih1 =>
      intro M1 n o3 t2 ok2 fr2 i1_0 i1_1 v1 f1
      obtain ⟨M1, rfl⟩ : ∃ m, M1 = m + 60 := ⟨M1 - 60, by omega⟩
      refine w_step rfl ?_
      refine w_iload rfl ?_
      refine w_push kc_200 ?_
      refine w_cgt (by omega) (fun h3 => ?_) (fun h3 => ?_)
      · skip
        refine w_step rfl ?_
        refine w_push kc_m1000000005 ?_
        refine w_retI rfl ?_
        exact ⟨ok2, fr2, (by omega), (by omega)⟩
      refine w_aload rfl ?_
      refine w_getR (g_23_0 _) ?_
      refine w_callV0I (oj_24 _).choose_spec rfl (c_X4_laidStones isT24 ok2) ?_
      rintro z4 t4 ⟨rfl, hp4_0, hp4_1⟩
      refine w_istore (lv' := [some (.ref 23), some (.ref 1), some (.int (jI n)), some (.int (jI z4))]) rfl ?_
      refine w_iload rfl ?_
      refine w_push kc_12 ?_
      refine w_ceq (by omega) (fun h5 => ?_) (fun h5 => ?_)
      · skip
        refine w_step rfl ?_
        refine w_iload rfl ?_
        refine w_retI rfl ?_
        exact ⟨ok2, fr2, (by omega), (by omega)⟩
      refine w_iload rfl ?_
      refine w_aload rfl ?_
      refine w_getR (g_23_0 _) ?_
      refine w_getI (g_24_10 _) fe_24_10 ok2 (fun z6 hz6 hl6 hh6 => ?_)
      refine w_cne (by omega) (fun h7 => ?_) (fun h7 => ?_)
      · skip
        refine w_step rfl ?_
        refine w_aload rfl ?_
        refine w_getR (g_23_0 _) ?_
        refine w_callV0V (oj_24 _).choose_spec rfl (c_X4_passDay isT24 ok2) ?_
        rintro t8 ⟨ok8, fq8, hp8_0, hp8_1⟩
        have fr8 := fr2.then fq8 (by simp)
        refine w_iinc (lv' := [some (.ref 23), some (.ref 1), some (.int (jI (n + 1))), some (.int (jI z4))]) kc_1 rfl rfl ?_
        refine w_goto ?_
        exact ih1 _ (n + 1) (some z4) t8 ok8 fr8 (by omega) (by omega) (by omega) (by omega)
      refine w_goto ?_
      refine w_step rfl ?_
      refine w_iload rfl ?_
      refine w_retI rfl ?_
      exact ⟨ok2, fr2, (by omega), (by omega)⟩
  exact key1 202 _ 0 none t1 ok1 fr1 (by omega) (by omega) (by omega) (by omega)
set_option maxRecDepth 100000 in
set_option maxHeartbeats 4000000 in
theorem c_X7_pictureWithout {d : Nat} {t : TS} {s n : Int}  (ok : OK t) (q0 : 0 ≤ s) (q1 : s ≤ 11) (q2 : 0 ≤ n) (q3 : n ≤ 1000) : CI (EX FU (d + 6)) 70 [.ref 23, .ref 1, .int (jI s), .int (jI n)] (mk t) (fun z t' => OK t' ∧ Fr [(24, 10), (24, 11), (24, 12), (24, 13), (24, 14), (25, 100), (26, 100), (27, 100), (28, 100), (29, 100), (30, 100), (31, 100), (32, 100), (34, 100), (33, 101)] t t' ∧ (0 ≤ z) ∧ (z ≤ 2376)) := by
  refine CI_ent (d := d + 5) (Bk := bX7_pictureWithout) (nL := 4) rfl rfl rfl (Nat.le_of_ble_eq_true rfl) ?_
  show Rn _ 1000000 0 [some (.ref 23), some (.ref 1), some (.int (jI s)), some (.int (jI n))] [] _ _
  have fr : Fr [(24, 10), (24, 11), (24, 12), (24, 13), (24, 14), (25, 100), (26, 100), (27, 100), (28, 100), (29, 100), (30, 100), (31, 100), (32, 100), (34, 100), (33, 101)] t t := Fr.rf _ _
  refine w_step rfl ?_
  refine w_aload rfl ?_
  refine w_getR (g_23_0 _) ?_
  refine w_aload rfl ?_
  refine w_callV1V (oj_24 _).choose_spec rfl (c_X4_become_24_1 ok) ?_
  rintro t1 ⟨ok1, fq1, hp1_0, hp1_1, hp1_2, hp1_3, hp1_4, hp1_5, hp1_6, hp1_7, hp1_8, hp1_9, hp1_10, hp1_11, hp1_12, hp1_13, hp1_14⟩
  have fr1 := fr.then fq1 (by simp)
  refine w_aload rfl ?_
  refine w_getR (g_23_0 _) ?_
  refine w_iload rfl ?_
  refine w_push kc_13 ?_
  refine w_callV2V (oj_24 _).choose_spec rfl (c_X4_moveTo isT24 ok1 (by omega) (by omega) (by omega) (by omega)) ?_
  rintro t2 ⟨ok2, fq2⟩
  have fr2 := fr1.then fq2 (by simp)
  refine w_aload rfl ?_
  refine w_getR (g_23_0 _) ?_
  refine w_iload rfl ?_
  refine w_callV1V (oj_24 _).choose_spec rfl (c_X4_passDays isT24 ok2 (by omega) (by omega) (by omega)) ?_
  rintro t3 ⟨ok3, fq3, hp3_0, hp3_1⟩
  have fr3 := fr2.then fq3 (by simp)
  refine w_aload rfl ?_
  refine w_getR (g_23_0 _) ?_
  refine w_callV0I (oj_24 _).choose_spec rfl (c_X4_picture isT24 ok3) ?_
  rintro z4 t4 ⟨rfl, hp4_0, hp4_1⟩
  refine w_retI rfl ?_
  exact ⟨ok3, fr3, (by omega), (by omega)⟩
set_option maxRecDepth 100000 in
set_option maxHeartbeats 4000000 in
theorem c_X7_rightAhead {d : Nat} {t : TS} {n m : Int}  (ok : OK t) (q0 : 0 ≤ n) (q1 : n ≤ 30) (q2 : 0 ≤ m) (q3 : m ≤ 60) : CI (EX FU (d + 5)) 71 [.ref 23, .ref 12, .int (jI n), .ref 44, .int (jI m)] (mk t) (fun z t' => OK t' ∧ Fr [(24, 10), (24, 11), (24, 12), (24, 13), (24, 14), (25, 100), (26, 100), (27, 100), (28, 100), (29, 100), (30, 100), (31, 100), (32, 100), (34, 100), (33, 101)] t t' ∧ (-1 ≤ z) ∧ (z ≤ 60)) := by
  refine CI_ent (d := d + 4) (Bk := bX7_rightAhead) (nL := 7) rfl rfl rfl (Nat.le_of_ble_eq_true rfl) ?_
  show Rn _ 1000000 0 [some (.ref 23), some (.ref 12), some (.int (jI n)), some (.ref 44), some (.int (jI m)), none, none] [] _ _
  have fr : Fr [(24, 10), (24, 11), (24, 12), (24, 13), (24, 14), (25, 100), (26, 100), (27, 100), (28, 100), (29, 100), (30, 100), (31, 100), (32, 100), (34, 100), (33, 101)] t t := Fr.rf _ _
  refine w_step rfl ?_
  refine w_aload rfl ?_
  refine w_getR (g_23_0 _) ?_
  refine w_aload rfl ?_
  refine w_callV1V (oj_24 _).choose_spec rfl (c_X4_become_24_12 ok) ?_
  rintro t1 ⟨ok1, fq1, hp1_0, hp1_1, hp1_2, hp1_3, hp1_4, hp1_5, hp1_6, hp1_7, hp1_8, hp1_9, hp1_10, hp1_11, hp1_12, hp1_13, hp1_14⟩
  have fr1 := fr.then fq1 (by simp)
  refine w_push kc_0 ?_
  refine w_istore (lv' := [some (.ref 23), some (.ref 12), some (.int (jI n)), some (.ref 44), some (.int (jI m)), some (.int (jI 0)), none]) rfl ?_
  refine w_goto ?_
  have key1 : ∀ (n1 M1 : Nat) (i : Int) (o6 : Option Int) (t2 : TS), OK t2 → Fr [(24, 10), (24, 11), (24, 12), (24, 13), (24, 14), (25, 100), (26, 100), (27, 100), (28, 100), (29, 100), (30, 100), (31, 100), (32, 100), (34, 100), (33, 101)] t t2 → (0 ≤ i) → (i ≤ 2 * n) → 60 - i < (n1 : Int) → 60 * n1 + (1000) ≤ M1 → Rn (bX7_rightAhead (EX FU (d + 4))) M1 1 [some (.ref 23), some (.ref 12), some (.int (jI n)), some (.ref 44), some (.int (jI m)), some (.int (jI i)), dv o6] [] (mk t2) (PI (fun z t' => OK t' ∧ Fr [(24, 10), (24, 11), (24, 12), (24, 13), (24, 14), (25, 100), (26, 100), (27, 100), (28, 100), (29, 100), (30, 100), (31, 100), (32, 100), (34, 100), (33, 101)] t t' ∧ (-1 ≤ z) ∧ (z ≤ 60))) := by
    intro n1
    induction n1 with
    | zero => intro M1 i o6 t2 ok2 fr2 i1_0 i1_1 v1 f1; exfalso; omega
    | succ n1 ih1 =>
      intro M1 i o6 t2 ok2 fr2 i1_0 i1_1 v1 f1
      obtain ⟨M1, rfl⟩ : ∃ m, M1 = m + 60 := ⟨M1 - 60, by omega⟩
      refine w_step rfl ?_
      refine w_iload rfl ?_
      refine w_push kc_2 ?_
      refine w_iload rfl ?_
      refine w_mul ?_
      refine w_cge (by omega) (fun h3 => ?_) (fun h3 => ?_)
      · skip
        refine w_step rfl ?_
        refine w_iload rfl ?_
        refine w_push kc_2 ?_
        refine w_iload rfl ?_
        refine w_mul ?_
        refine w_cle (by omega) (fun h4 => ?_) (fun h4 => ?_)
        · skip
          refine w_step rfl ?_
          refine w_push kc_m1 ?_
          refine w_goto ?_
          refine w_step rfl ?_
          refine w_retI rfl ?_
          exact ⟨ok2, fr2, (by omega), (by omega)⟩
        refine w_push kc_2 ?_
        refine w_iload rfl ?_
        refine w_mul ?_
        refine w_goto ?_
        refine w_step rfl ?_
        refine w_retI rfl ?_
        exact ⟨ok2, fr2, (by omega), (by omega)⟩
      refine w_iload rfl ?_
      refine w_push kc_2 ?_
      refine w_rem (by omega) ?_
      refine w_ine (by omega) (fun h5 => ?_) (fun h5 => ?_)
      · skip
        refine w_step rfl ?_
        refine w_iload rfl ?_
        refine w_push kc_2 ?_
        refine w_rem (by omega) ?_
        refine w_ine (by omega) (fun _ => ?_) (fun h => absurd (by omega) h)
        refine w_step rfl ?_
        refine w_aload rfl ?_
        refine w_getR (g_23_0 _) ?_
        refine w_callV0I (oj_24 _).choose_spec rfl (c_X4_matches isT24 ok2) ?_
        rintro z6 t6 ⟨rfl, hp6_0, hp6_1⟩
        refine w_goto ?_
        refine w_step rfl ?_
        refine w_istore (lv' := [some (.ref 23), some (.ref 12), some (.int (jI n)), some (.ref 44), some (.int (jI m)), some (.int (jI i)), some (.int (jI z6))]) rfl ?_
        refine w_iload rfl ?_
        refine w_iload rfl ?_
        refine w_cge (by omega) (fun h7 => ?_) (fun h7 => ?_)
        · skip
          refine w_step rfl ?_
          refine w_iload rfl ?_
          refine w_retI rfl ?_
          exact ⟨ok2, fr2, (by omega), (by omega)⟩
        refine w_aload rfl ?_
        refine w_iload rfl ?_
        refine w_iald (i := (i).toNat) (ai_44 _) (by omega) (by omega) (ae_44 _) ok2 (fun z8 hz8 hl8 hh8 => ?_)
        refine w_iload rfl ?_
        refine w_ceq (by omega) (fun h9 => ?_) (fun h9 => ?_)
        · skip
          refine w_step rfl ?_
          refine w_iinc (lv' := [some (.ref 23), some (.ref 12), some (.int (jI n)), some (.ref 44), some (.int (jI m)), some (.int (jI (i + 1))), some (.int (jI z6))]) kc_1 rfl rfl ?_
          refine w_goto ?_
          exact ih1 _ (i + 1) (some z6) t2 ok2 fr2 (by omega) (by omega) (by omega) (by omega)
        refine w_goto ?_
        refine w_step rfl ?_
        refine w_iload rfl ?_
        refine w_retI rfl ?_
        exact ⟨ok2, fr2, (by omega), (by omega)⟩
      refine w_aload rfl ?_
      refine w_getR (g_23_0 _) ?_
      refine w_callV0V (oj_24 _).choose_spec rfl (c_X4_passDay isT24 ok2) ?_
      rintro t10 ⟨ok10, fq10, hp10_0, hp10_1⟩
      have fr10 := fr2.then fq10 (by simp)
      refine w_goto ?_
      refine w_step rfl ?_
      refine w_iload rfl ?_
      refine w_push kc_2 ?_
      refine w_rem (by omega) ?_
      refine w_ine (by omega) (fun h => absurd h (by omega)) (fun _ => ?_)
      refine w_aload rfl ?_
      refine w_getR (g_23_0 _) ?_
      refine w_callV0I (oj_24 _).choose_spec rfl (c_X4_picture isT24 ok10) ?_
      rintro z11 t11 ⟨rfl, hp11_0, hp11_1⟩
      refine w_goto ?_
      refine w_step rfl ?_
      refine w_istore (lv' := [some (.ref 23), some (.ref 12), some (.int (jI n)), some (.ref 44), some (.int (jI m)), some (.int (jI i)), some (.int (jI z11))]) rfl ?_
      refine w_iload rfl ?_
      refine w_iload rfl ?_
      refine w_cge (by omega) (fun h12 => ?_) (fun h12 => ?_)
      · skip
        refine w_step rfl ?_
        refine w_iload rfl ?_
        refine w_retI rfl ?_
        exact ⟨ok10, fr10, (by omega), (by omega)⟩
      refine w_aload rfl ?_
      refine w_iload rfl ?_
      refine w_iald (i := (i).toNat) (ai_44 _) (by omega) (by omega) (ae_44 _) ok10 (fun z13 hz13 hl13 hh13 => ?_)
      refine w_iload rfl ?_
      refine w_ceq (by omega) (fun h14 => ?_) (fun h14 => ?_)
      · skip
        refine w_step rfl ?_
        refine w_iinc (lv' := [some (.ref 23), some (.ref 12), some (.int (jI n)), some (.ref 44), some (.int (jI m)), some (.int (jI (i + 1))), some (.int (jI z11))]) kc_1 rfl rfl ?_
        refine w_goto ?_
        exact ih1 _ (i + 1) (some z11) t10 ok10 fr10 (by omega) (by omega) (by omega) (by omega)
      refine w_goto ?_
      refine w_step rfl ?_
      refine w_iload rfl ?_
      refine w_retI rfl ?_
      exact ⟨ok10, fr10, (by omega), (by omega)⟩
  exact key1 61 _ 0 none t1 ok1 fr1 (by omega) (by omega) (by omega) (by omega)
set_option maxRecDepth 100000 in
set_option maxHeartbeats 4000000 in
theorem c_X7_offerStone {d : Nat} {t : TS} {s m : Int}  (ok : OK t) (q0 : 0 ≤ s) (q1 : s ≤ 11) (q2 : 1 ≤ m) (q3 : m ≤ 6) : CV (EX FU (d + 4)) 73 [.ref 23, .ref 1, .int (jI s), .int (jI m)] (mk t) (fun t' => OK t' ∧ Fr [(35, 100), (36, 100)] t t') := by
  refine CV_ent (d := d + 3) (Bk := bX7_offerStone) (nL := 6) rfl rfl rfl (Nat.le_of_ble_eq_true rfl) ?_
  show Rn _ 1000000 0 [some (.ref 23), some (.ref 1), some (.int (jI s)), some (.int (jI m)), none, none] [] _ _
  have fr : Fr [(35, 100), (36, 100)] t t := Fr.rf _ _
  refine w_step rfl ?_
  refine w_push kc_0 ?_
  refine w_istore (lv' := [some (.ref 23), some (.ref 1), some (.int (jI s)), some (.int (jI m)), some (.int (jI 0)), none]) rfl ?_
  refine w_goto ?_
  have key1 : ∀ (n1 M1 : Nat) (p : Int) (t1 : TS), OK t1 → Fr [(35, 100), (36, 100)] t t1 → (0 ≤ p) → (p ≤ m) → 6 - p < (n1 : Int) → 60 * n1 + (90000) ≤ M1 → Rn (bX7_offerStone (EX FU (d + 3))) M1 1 [some (.ref 23), some (.ref 1), some (.int (jI s)), some (.int (jI m)), some (.int (jI p)), none] [] (mk t1) (PV (fun t' => OK t' ∧ Fr [(35, 100), (36, 100)] t t')) := by
    intro n1
    induction n1 with
    | zero => intro M1 p t1 ok1 fr1 i1_0 i1_1 v1 f1; exfalso; omega
    | succ n1 ih1 =>
      intro M1 p t1 ok1 fr1 i1_0 i1_1 v1 f1
      obtain ⟨M1, rfl⟩ : ∃ m, M1 = m + 60 := ⟨M1 - 60, by omega⟩
      refine w_step rfl ?_
      refine w_iload rfl ?_
      refine w_iload rfl ?_
      refine w_cge (by omega) (fun h2 => ?_) (fun h2 => ?_)
      · skip
        refine w_step rfl ?_
        refine w_push kc_1 ?_
        refine w_iload rfl ?_
        refine w_bin (fun z3 hz3 hl3 hh3 => ?_)
        have hu3 := shl_r (by omega) hz3
        refine w_push kc_1 ?_
        refine w_sub ?_
        refine w_istore (lv' := [some (.ref 23), some (.ref 1), some (.int (jI s)), some (.int (jI m)), some (.int (jI (z3 - 1))), none]) rfl ?_
        refine w_goto ?_
        have key5 : ∀ (n5 M5 : Nat) (e : Int) (o5 : Option Int) (t4 : TS), OK t4 → Fr [(35, 100), (36, 100)] t t4 → (0 ≤ e) → (e ≤ 63) → e < (n5 : Int) → 1000 * n5 + (1000) ≤ M5 → Rn (bX7_offerStone (EX FU (d + 3))) M5 5 [some (.ref 23), some (.ref 1), some (.int (jI s)), some (.int (jI m)), some (.int (jI e)), dv o5] [] (mk t4) (PV (fun t' => OK t' ∧ Fr [(35, 100), (36, 100)] t t')) := by
          intro n5
          induction n5 with
          | zero => intro M5 e o5 t4 ok4 fr4 i5_0 i5_1 v5 f5; exfalso; omega
          | succ n5 ih5 =>
            intro M5 e o5 t4 ok4 fr4 i5_0 i5_1 v5 f5
            obtain ⟨M5, rfl⟩ : ∃ m, M5 = m + 1000 := ⟨M5 - 1000, by omega⟩
            refine w_step rfl ?_
            refine w_iload rfl ?_
            refine w_ile (by omega) (fun h5 => ?_) (fun h5 => ?_)
            · skip
              refine w_step rfl ?_
              refine w_retV ?_
              exact ⟨ok4, fr4⟩
            refine w_push kc_0 ?_
            refine w_istore (lv' := [some (.ref 23), some (.ref 1), some (.int (jI s)), some (.int (jI m)), some (.int (jI e)), some (.int (jI 0))]) rfl ?_
            refine w_goto ?_
            have key6 : ∀ (n6 M6 : Nat) (p : Int) (t6 : TS), OK t6 → Fr [(35, 100), (36, 100)] t t6 → (0 ≤ p) → (p ≤ m) → 6 - p < (n6 : Int) → 60 * n6 + (1000 * n5 + 1000) ≤ M6 → Rn (bX7_offerStone (EX FU (d + 3))) M6 6 [some (.ref 23), some (.ref 1), some (.int (jI s)), some (.int (jI m)), some (.int (jI e)), some (.int (jI p))] [] (mk t6) (PV (fun t' => OK t' ∧ Fr [(35, 100), (36, 100)] t t')) := by
              intro n6
              induction n6 with
              | zero => intro M6 p t6 ok6 fr6 i6_0 i6_1 v6 f6; exfalso; omega
              | succ n6 ih6 =>
                intro M6 p t6 ok6 fr6 i6_0 i6_1 v6 f6
                obtain ⟨M6, rfl⟩ : ∃ m, M6 = m + 60 := ⟨M6 - 60, by omega⟩
                refine w_step rfl ?_
                refine w_iload rfl ?_
                refine w_iload rfl ?_
                refine w_cge (by omega) (fun h7 => ?_) (fun h7 => ?_)
                · skip
                  refine w_step rfl ?_
                  refine w_iinc (lv' := [some (.ref 23), some (.ref 1), some (.int (jI s)), some (.int (jI m)), some (.int (jI (e + (-1)))), some (.int (jI p))]) kc_m1 rfl rfl ?_
                  refine w_goto ?_
                  exact ih5 _ (e + (-1)) (some p) t6 ok6 fr6 (by omega) (by omega) (by omega) (by omega)
                refine w_iload rfl ?_
                refine w_iload rfl ?_
                refine w_bin (fun z8 hz8 hl8 hh8 => ?_)
                have hb1 := hz8
                refine w_push kc_1 ?_
                refine w_bin (fun z9 hz9 hl9 hh9 => ?_)
                have hu9 := ah_and1 hz9
                have hb2 := hz9
                refine w_ieq (by omega) (fun h10 => ?_) (fun h10 => ?_)
                · skip
                  refine w_step rfl ?_
                  refine w_iinc (lv' := [some (.ref 23), some (.ref 1), some (.int (jI s)), some (.int (jI m)), some (.int (jI e)), some (.int (jI (p + 1)))]) kc_1 rfl rfl ?_
                  refine w_goto ?_
                  exact ih6 _ (p + 1) t6 ok6 fr6 (by omega) (by omega) (by omega) (by omega)
                refine w_aload rfl ?_
                refine w_getR (g_23_1 _) ?_
                refine w_iload rfl ?_
                refine w_aload rfl ?_
                refine w_getR (g_23_1 _) ?_
                refine w_iload rfl ?_
                refine w_iald (i := (e).toNat) (ai_35 _) (by omega) (by omega) (ae_35 _) ok6 (fun z11 hz11 hl11 hh11 => ?_)
                refine w_aload rfl ?_
                refine w_getR (g_23_1 _) ?_
                refine w_iload rfl ?_
                refine w_push kc_1 ?_
                refine w_iload rfl ?_
                refine w_bin (fun z12 hz12 hl12 hh12 => ?_)
                have hu12 := shl_r (by omega) hz12
                have hb3 := bit_sub (by omega) (by omega) hb1 hb2 (by omega) hz12
                refine w_sub ?_
                refine w_iald (i := ((e - z12)).toNat) (ai_35 _) (by omega) (by omega) (ae_35 _) ok6 (fun z13 hz13 hl13 hh13 => ?_)
                refine w_aload rfl ?_
                refine w_getR (g_23_2 _) ?_
                refine w_iload rfl ?_
                refine w_iald (i := (p).toNat) (ai_36 _) (by omega) (by omega) (ae_36 _) ok6 (fun z14 hz14 hl14 hh14 => ?_)
                refine w_addW (fun z15 hz15 hl15 hh15 => ?_)
                refine w_min rfl (by omega) ?_
                refine w_iast (i := (e).toNat) (ai_35 _) rfl (by omega) (by omega) (ae_35 _) ok6 (by omega) (fun t16 ht16 ok16 => ?_)
                have fr16 := fr6.uA ht16 (by simp)
                refine w_goto ?_
                refine w_step rfl ?_
                refine w_iinc (lv' := [some (.ref 23), some (.ref 1), some (.int (jI s)), some (.int (jI m)), some (.int (jI e)), some (.int (jI (p + 1)))]) kc_1 rfl rfl ?_
                refine w_goto ?_
                exact ih6 _ (p + 1) t16 ok16 fr16 (by omega) (by omega) (by omega) (by omega)
            exact key6 7 _ 0 t4 ok4 fr4 (by omega) (by omega) (by omega) (by omega)
        exact key5 64 _ (z3 - 1) none t1 ok1 fr1 (by omega) (by omega) (by omega) (by omega)
      refine w_aload rfl ?_
      refine w_getR (g_23_2 _) ?_
      refine w_iload rfl ?_
      refine w_push kc_16 ?_
      refine w_aload rfl ?_
      refine w_iload rfl ?_
      refine w_iload rfl ?_
      refine w_callV2I (oj_1 _).choose_spec rfl (c_X4_leastOff isT1 ok1 (by omega) (by omega) (by omega) (by omega)) ?_
      rintro z17 t17 ⟨rfl, hp17_0, hp17_1⟩
      refine w_mul ?_
      refine w_iload rfl ?_
      refine w_ine (by omega) (fun h18 => ?_) (fun h18 => ?_)
      · skip
        refine w_step rfl ?_
        refine w_push kc_0 ?_
        refine w_goto ?_
        refine w_step rfl ?_
        refine w_add ?_
        refine w_iast (i := (p).toNat) (ai_36 _) rfl (by omega) (by omega) (ae_36 _) ok1 (by omega) (fun t19 ht19 ok19 => ?_)
        have fr19 := fr1.uA ht19 (by simp)
        refine w_iinc (lv' := [some (.ref 23), some (.ref 1), some (.int (jI s)), some (.int (jI m)), some (.int (jI (p + 1))), none]) kc_1 rfl rfl ?_
        refine w_goto ?_
        exact ih1 _ (p + 1) t19 ok19 fr19 (by omega) (by omega) (by omega) (by omega)
      refine w_iload rfl ?_
      refine w_goto ?_
      refine w_step rfl ?_
      refine w_add ?_
      refine w_iast (i := (p).toNat) (ai_36 _) rfl (by omega) (by omega) (ae_36 _) ok1 (by omega) (fun t20 ht20 ok20 => ?_)
      have fr20 := fr1.uA ht20 (by simp)
      refine w_iinc (lv' := [some (.ref 23), some (.ref 1), some (.int (jI s)), some (.int (jI m)), some (.int (jI (p + 1))), none]) kc_1 rfl rfl ?_
      refine w_goto ?_
      exact ih1 _ (p + 1) t20 ok20 fr20 (by omega) (by omega) (by omega) (by omega)
  exact key1 7 _ 0 t ok fr (by omega) (by omega) (by omega) (by omega)
set_option maxRecDepth 100000 in
set_option maxHeartbeats 4000000 in
theorem c_X7_bestLaying {d : Nat} {t : TS} {m w : Int}  (ok : OK t) (q0 : 1 ≤ m) (q1 : m ≤ 6) (q2 : -2147483648 ≤ w) (q3 : w ≤ 2147483647) : CI (EX FU (d + 5)) 72 [.ref 23, .ref 1, .int (jI m), .int (jI w)] (mk t) (fun z t' => OK t' ∧ Fr [(35, 100), (36, 100)] t t' ∧ (-2147483648 ≤ z) ∧ (z ≤ 2147483647)) := by
  refine CI_ent (d := d + 4) (Bk := bX7_bestLaying) (nL := 5) rfl rfl rfl (Nat.le_of_ble_eq_true rfl) ?_
  show Rn _ 1000000 0 [some (.ref 23), some (.ref 1), some (.int (jI m)), some (.int (jI w)), none] [] _ _
  have fr : Fr [(35, 100), (36, 100)] t t := Fr.rf _ _
  refine w_step rfl ?_
  refine w_aload rfl ?_
  refine w_getR (g_23_1 _) ?_
  refine w_push kc_16777216 ?_
  refine w_callS2V rfl (c_J7_fill_53178 (fun u => ai_35 u) ok (by intro i; rw [(ae_35 i)]; exact ⟨by decide, by decide⟩)) ?_
  rintro t1 ⟨ok1, fq1, hp1_0⟩
  have fr1 := fr.then fq1 (by simp)
  refine w_aload rfl ?_
  refine w_getR (g_23_1 _) ?_
  refine w_push kc_0 ?_
  refine w_push kc_0 ?_
  refine w_iast (i := 0) (ai_35 _) rfl (by omega) (by omega) (ae_35 _) ok1 (by omega) (fun t2 ht2 ok2 => ?_)
  have fr2 := fr1.uA ht2 (by simp)
  refine w_push kc_0 ?_
  refine w_istore (lv' := [some (.ref 23), some (.ref 1), some (.int (jI m)), some (.int (jI w)), some (.int (jI 0))]) rfl ?_
  refine w_goto ?_
  have key1 : ∀ (n1 M1 : Nat) (s : Int) (t3 : TS), OK t3 → Fr [(35, 100), (36, 100)] t t3 → (0 ≤ s) → (s ≤ 12) → 12 - s < (n1 : Int) → 60 * n1 + (1000) ≤ M1 → Rn (bX7_bestLaying (EX FU (d + 4))) M1 1 [some (.ref 23), some (.ref 1), some (.int (jI m)), some (.int (jI w)), some (.int (jI s))] [] (mk t3) (PI (fun z t' => OK t' ∧ Fr [(35, 100), (36, 100)] t t' ∧ (-2147483648 ≤ z) ∧ (z ≤ 2147483647))) := by
    intro n1
    induction n1 with
    | zero => intro M1 s t3 ok3 fr3 i1_0 i1_1 v1 f1; exfalso; omega
    | succ n1 ih1 =>
      intro M1 s t3 ok3 fr3 i1_0 i1_1 v1 f1
      obtain ⟨M1, rfl⟩ : ∃ m, M1 = m + 60 := ⟨M1 - 60, by omega⟩
      refine w_step rfl ?_
      refine w_iload rfl ?_
      refine w_aload rfl ?_
      refine w_getI (g_1_10 _) fe_1_10 ok3 (fun z4 hz4 hl4 hh4 => ?_)
      refine w_cge (by omega) (fun h5 => ?_) (fun h5 => ?_)
      · skip
        refine w_step rfl ?_
        refine w_aload rfl ?_
        refine w_getR (g_23_1 _) ?_
        refine w_push kc_1 ?_
        refine w_iload rfl ?_
        refine w_bin (fun z6 hz6 hl6 hh6 => ?_)
        have hu6 := shl_r (by omega) hz6
        refine w_push kc_1 ?_
        refine w_sub ?_
        refine w_iald (i := ((z6 - 1)).toNat) (ai_35 _) (by omega) (by omega) (ae_35 _) ok3 (fun z7 hz7 hl7 hh7 => ?_)
        refine w_istore (lv' := [some (.ref 23), some (.ref 1), some (.int (jI m)), some (.int (jI w)), some (.int (jI z7))]) rfl ?_
        refine w_iload rfl ?_
        refine w_push kc_16777216 ?_
        refine w_clt (by omega) (fun h8 => ?_) (fun h8 => ?_)
        · skip
          refine w_step rfl ?_
          refine w_iload rfl ?_
          refine w_ine (by omega) (fun h9 => ?_) (fun h9 => ?_)
          · skip
            refine w_step rfl ?_
            refine w_iload rfl ?_
            refine w_push kc_16 ?_
            refine w_divG (by omega) (fun z10 hz10 hl10 hh10 => ?_)
            refine w_goto ?_
            refine w_step rfl ?_
            refine w_retI rfl ?_
            exact ⟨ok3, fr3, (by omega), (by omega)⟩
          refine w_iload rfl ?_
          refine w_push kc_16 ?_
          refine w_divG (by omega) (fun z11 hz11 hl11 hh11 => ?_)
          refine w_goto ?_
          refine w_step rfl ?_
          refine w_retI rfl ?_
          exact ⟨ok3, fr3, (by omega), (by omega)⟩
        refine w_push kc_m1000000005 ?_
        refine w_retI rfl ?_
        exact ⟨ok3, fr3, (by omega), (by omega)⟩
      refine w_aload rfl ?_
      refine w_getR (g_1_3 _) ?_
      refine w_iload rfl ?_
      refine w_iald (i := (s).toNat) (ai_5 _) (by omega) (by omega) (ae_5 _) ok3 (fun z12 hz12 hl12 hh12 => ?_)
      refine w_push kc_12 ?_
      refine w_ceq (by omega) (fun h13 => ?_) (fun h13 => ?_)
      · skip
        refine w_step rfl ?_
        refine w_aload rfl ?_
        refine w_aload rfl ?_
        refine w_iload rfl ?_
        refine w_iload rfl ?_
        refine w_callV3V (oj_23 _).choose_spec rfl (c_X7_offerStone ok3 (by omega) (by omega) (by omega) (by omega)) ?_
        rintro t14 ⟨ok14, fq14⟩
        have fr14 := fr3.then fq14 (by simp)
        refine w_goto ?_
        refine w_step rfl ?_
        refine w_iinc (lv' := [some (.ref 23), some (.ref 1), some (.int (jI m)), some (.int (jI w)), some (.int (jI (s + 1)))]) kc_1 rfl rfl ?_
        refine w_goto ?_
        exact ih1 _ (s + 1) t14 ok14 fr14 (by omega) (by omega) (by omega) (by omega)
      refine w_aload rfl ?_
      refine w_getR (g_1_3 _) ?_
      refine w_iload rfl ?_
      refine w_iald (i := (s).toNat) (ai_5 _) (by omega) (by omega) (ae_5 _) ok3 (fun z15 hz15 hl15 hh15 => ?_)
      refine w_iload rfl ?_
      refine w_cge (by omega) (fun h16 => ?_) (fun h16 => ?_)
      · skip
        refine w_step rfl ?_
        refine w_iinc (lv' := [some (.ref 23), some (.ref 1), some (.int (jI m)), some (.int (jI w)), some (.int (jI (s + 1)))]) kc_1 rfl rfl ?_
        refine w_goto ?_
        exact ih1 _ (s + 1) t3 ok3 fr3 (by omega) (by omega) (by omega) (by omega)
      refine w_goto ?_
      refine w_step rfl ?_
      refine w_aload rfl ?_
      refine w_aload rfl ?_
      refine w_iload rfl ?_
      refine w_iload rfl ?_
      refine w_callV3V (oj_23 _).choose_spec rfl (c_X7_offerStone ok3 (by omega) (by omega) (by omega) (by omega)) ?_
      rintro t17 ⟨ok17, fq17⟩
      have fr17 := fr3.then fq17 (by simp)
      refine w_goto ?_
      refine w_step rfl ?_
      refine w_iinc (lv' := [some (.ref 23), some (.ref 1), some (.int (jI m)), some (.int (jI w)), some (.int (jI (s + 1)))]) kc_1 rfl rfl ?_
      refine w_goto ?_
      exact ih1 _ (s + 1) t17 ok17 fr17 (by omega) (by omega) (by omega) (by omega)
  exact key1 13 _ 0 t2 ok2 fr2 (by omega) (by omega) (by omega) (by omega)
