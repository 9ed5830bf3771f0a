def WOp (t u : TS) (s : Nat) : Prop := HCt u 24 ∧ tI u 24 10 = tI t 1 10 ∧ Agr (tI t 1 10).toNat (CP u 24) (upF (tA t 5) s 13, tA t 6) ∧ AgO (tI t 1 10).toNat (OC u 24) (OC t 1) ∧ tI u 24 12 = tI t 1 12 ∧ tI u 24 14 = tI t 1 14
theorem wo_1 {S : List (Nat × Nat)} {t u v : TS} {s : Int} (h : BHp t u 1 0) (hs : 0 ≤ s ∧ s ≤ tI t 1 10 - 1) (h4 : tA v (24 + 4) = upF (tA u (24 + 4)) s.toNat 13) (h6 : tA v (24 + 6) = mvH (tA u (24 + 6)) (tA u (24 + 4)) s.toNat 13) (f : Fr S u v) (k5 : (29, 100) ∉ S) (k7 : (31, 100) ∉ S) (k8 : (32, 100) ∉ S) (k10 : (24, 10) ∉ S) (k12 : (24, 12) ∉ S) (k14 : (24, 14) ∉ S) (k26 : (26, 100) ∉ S) (k27 : (27, 100) ∉ S) : WOp t v s.toNat := by
  obtain ⟨a1, a2, a3, a4, a5, a6, a7⟩ := h
  have e5 := funext (f.2.1 _ k5)
  have e7 := funext (f.2.1 _ k7)
  have e8 := funext (f.2.1 _ k8)
  refine ⟨?_, (f.1 _ _ k10).trans a1, fun q hq => ?_, ?_, (f.1 _ _ k12).trans a6, (f.1 _ _ k14).trans a7⟩
  · unfold HCt
    rw [h4, h6, f.1 _ _ k10]
    exact HC.mv a2 (by rw [a1]; omega) (by decide) (fun e => absurd e (by decide))
  · have k := a3 q hq
    refine ⟨?_, ?_⟩
    · show tA v (24 + 4) q = upF (tA t 5) s.toNat 13 q
      rw [h4]
      unfold upF
      split
      · rfl
      · exact k.1
    · show tA v (24 + 5) q = tA t 6 q
      rw [show 24 + 5 = 29 from rfl, e5]
      exact k.2
  · have e : OC v 24 = OC u 24 := by
      unfold OC
      rw [show 24 + 7 = 31 from rfl, show 24 + 8 = 32 from rfl, e7, e8]
    rw [e]
    exact a4
def WRp (t u : TS) (s k : Nat) : Prop := HCt u 24 ∧ tI u 24 10 = tI t 1 10 ∧ Agr (tI t 1 10).toNat (CP u 24) (dysF (tI t 1 10).toNat (OC t 1) (tI t 1 12) (tI t 1 14) k (upF (tA t 5) s 13, tA t 6)) ∧ AgO (tI t 1 10).toNat (OC u 24) (OC t 1)
theorem wo_2 {S : List (Nat × Nat)} {t u v : TS} {s k : Nat} (h : WOp t u s) (g : GLp u v 24 (dysF (tI u 24 10).toNat (OC u 24) (tI u 24 12) (tI u 24 14) k (CP u 24))) (f : Fr S u v) : WRp t v s k := by
  obtain ⟨a1, a2, a3, a4, a5, a6⟩ := h
  obtain ⟨g1, g2, g3, g4⟩ := g
  refine ⟨g2, g4.trans a2, ?_, by rw [g3]; exact a4⟩
  rw [g1, a2, a5, a6]
  exact dysF_agr a3 a4 k
theorem wo_3 {t u : TS} {s k : Nat} (h : WRp t u s k) (ok : OK u) : picH (OC u 24) (tA u (24 + 5)) (tA u (24 + 6)) 12 = picG (tI t 1 10).toNat (OC t 1) (dysF (tI t 1 10).toNat (OC t 1) (tI t 1 12) (tI t 1 14) k (upF (tA t 5) s 13, tA t 6)) := by
  obtain ⟨a1, a2, a3, a4⟩ := h
  rw [picC a1 (OC u 24) (fun _ _ _ => rfl) (fun s => u24 ok s), a2]
  exact picG_cg a3 a4 (fun s => u24 ok s)
set_option maxRecDepth 100000 in
set_option maxHeartbeats 4000000 in
theorem e_X7_behindDays_tab {d : Nat} {t : TS} {n : Int}  (ok : OK t) (q0 : HCt t 1) (q1 : 0 ≤ n) (q2 : n ≤ 1000) : CR (EX FU (d + 6)) 68 [.ref 23, .ref 1, .int (jI n)] (mk t) (fun z t' => OK t' ∧ Fr [(24, 10), (24, 11), (24, 12), (24, 13), (24, 14), (25, 100), (26, 100), (27, 100), (28, 100), (29, 100), (30, 100), (31, 100), (32, 100), (34, 100), (33, 101)] t t' ∧ (z = some 24) ∧ (BHp t t' 1 n.toNat)) := by
  refine CR_ent (d := d + 5) (Bk := bX7_behindDays) (nL := 3) rfl rfl rfl (Nat.le_of_ble_eq_true rfl) ?_
  show Rn _ 1000000 0 [some (.ref 23), some (.ref 1), some (.int (jI n))] [] _ _
  have fr : Fr [(24, 10), (24, 11), (24, 12), (24, 13), (24, 14), (25, 100), (26, 100), (27, 100), (28, 100), (29, 100), (30, 100), (31, 100), (32, 100), (34, 100), (33, 101)] t t := Fr.rf _ _
  have hc := q0
  have hnb := ok.f fe_1_10
  refine w_step rfl ?_
  refine w_aload rfl ?_
  refine w_getR (g_23_0 _) ?_
  refine w_aload rfl ?_
  refine w_callV1V (oj_24 _).choose_spec rfl (c_X4_become_24_1 ok) ?_
  rintro t1 ⟨ok1, fq1, hp1_0, hp1_1, hp1_2, hp1_3, hp1_4, hp1_5, hp1_6, hp1_7, hp1_8, hp1_9, hp1_10, hp1_11, hp1_12, hp1_13, hp1_14⟩
  have fr1 := fr.then fq1 (by simp)
  have bh : BHp t t1 1 0 := bh_0 hc (by omega) hp1_0 hp1_2 hp1_4 hp1_6 hp1_7 hp1_8 hp1_9 hp1_10 hp1_11 hp1_12
  refine w_aload rfl ?_
  refine w_getR (g_23_0 _) ?_
  refine w_iload rfl ?_
  refine w_callV1V (oj_24 _).choose_spec rfl (e_X4_passDays isT24 ok1 bh.2.1 (by omega) (by omega) (by omega)) ?_
  rintro t2 ⟨ok2, fq2, hp2_0, hp2_1, hp2_2⟩
  have fr2 := fr1.then fq2 (by simp)
  have bh : BHp t t2 1 n.toNat := bh_d bh hp2_2 hp2_0 fq2 (by simp) (by simp) (by simp)
  refine w_aload rfl ?_
  refine w_getR (g_23_0 _) ?_
  refine w_retR rfl ?_
  exact ⟨ok2, fr2, rfl, bh⟩
set_option maxRecDepth 100000 in
set_option maxHeartbeats 4000000 in
theorem e_X7_daysTillLaid {d : Nat} {t : TS}  (ok : OK t) (q0 : HCt t 1) : CI (EX FU (d + 5)) 69 [.ref 23, .ref 1] (mk t) (fun z t' => OK t' ∧ Fr [(24, 10), (24, 11), (24, 12), (24, 13), (24, 14), (25, 100), (26, 100), (27, 100), (28, 100), (29, 100), (30, 100), (31, 100), (32, 100), (34, 100), (33, 101)] t t' ∧ (-2147483648 ≤ z) ∧ (z ≤ 2147483647) ∧ (FsP (fun m => (cnX t 1 m = 12 ∨ cnX t 1 m = tI t 1 10)) 201 z)) := by
  refine CI_ent (d := d + 4) (Bk := bX7_daysTillLaid) (nL := 4) rfl rfl rfl (Nat.le_of_ble_eq_true rfl) ?_
  show Rn _ 1000000 0 [some (.ref 23), some (.ref 1), none, none] [] _ _
  have fr : Fr [(24, 10), (24, 11), (24, 12), (24, 13), (24, 14), (25, 100), (26, 100), (27, 100), (28, 100), (29, 100), (30, 100), (31, 100), (32, 100), (34, 100), (33, 101)] t t := Fr.rf _ _
  have hc := q0
  have hnb := ok.f fe_1_10
  refine w_step rfl ?_
  refine w_aload rfl ?_
  refine w_getR (g_23_0 _) ?_
  refine w_aload rfl ?_
  refine w_callV1V (oj_24 _).choose_spec rfl (c_X4_become_24_1 ok) ?_
  rintro t1 ⟨ok1, fq1, hp1_0, hp1_1, hp1_2, hp1_3, hp1_4, hp1_5, hp1_6, hp1_7, hp1_8, hp1_9, hp1_10, hp1_11, hp1_12, hp1_13, hp1_14⟩
  have fr1 := fr.then fq1 (by simp)
  have bh : BHp t t1 1 0 := bh_0 hc (by omega) hp1_0 hp1_2 hp1_4 hp1_6 hp1_7 hp1_8 hp1_9 hp1_10 hp1_11 hp1_12
  refine w_push kc_0 ?_
  refine w_istore (lv' := [some (.ref 23), some (.ref 1), some (.int (jI 0)), none]) rfl ?_
  refine w_goto ?_
  have key1 : ∀ (n1 M1 : Nat) (n : Int) (o3 : Option Int) (t2 : TS), OK t2 → Fr [(24, 10), (24, 11), (24, 12), (24, 13), (24, 14), (25, 100), (26, 100), (27, 100), (28, 100), (29, 100), (30, 100), (31, 100), (32, 100), (34, 100), (33, 101)] t t2 → (0 ≤ n) → (n ≤ 201) → (BHp t t2 1 n.toNat) → (∀ k : Int, 0 ≤ k → k < n → ¬ (cnX t 1 k.toNat = 12 ∨ cnX t 1 k.toNat = tI t 1 10)) → 201 - n < (n1 : Int) → 60 * n1 + (1000) ≤ M1 → Rn (bX7_daysTillLaid (EX FU (d + 4))) M1 1 [some (.ref 23), some (.ref 1), some (.int (jI n)), dv o3] [] (mk t2) (PI (fun z t' => OK t' ∧ Fr [(24, 10), (24, 11), (24, 12), (24, 13), (24, 14), (25, 100), (26, 100), (27, 100), (28, 100), (29, 100), (30, 100), (31, 100), (32, 100), (34, 100), (33, 101)] t t' ∧ (-2147483648 ≤ z) ∧ (z ≤ 2147483647) ∧ (FsP (fun m => (cnX t 1 m = 12 ∨ cnX t 1 m = tI t 1 10)) 201 z))) := by
    intro n1
    induction n1 with
    | zero => intro M1 n o3 t2 ok2 fr2 i1_0 i1_1 i1_2 i1_3 v1 f1; exfalso; omega
    | succ n1 ih1 =>
      intro M1 n o3 t2 ok2 fr2 i1_0 i1_1 i1_2 i1_3 v1 f1
      obtain ⟨M1, rfl⟩ : ∃ m, M1 = m + 60 := ⟨M1 - 60, by omega⟩
      refine w_step rfl ?_
      refine w_iload rfl ?_
      refine w_push kc_200 ?_
      refine w_cgt (by omega) (fun h3 => ?_) (fun h3 => ?_)
      · skip
        refine w_step rfl ?_
        refine w_push kc_m1000000005 ?_
        refine w_retI rfl ?_
        exact ⟨ok2, fr2, (by omega), (by omega), (by first | exact Or.inr ⟨by omega, by omega, by first | (show _ ∨ _; omega), i1_3⟩ | exact Or.inl ⟨rfl, fun k h1 h2 => i1_3 k h1 (by omega)⟩)⟩
      refine w_aload rfl ?_
      refine w_getR (g_23_0 _) ?_
      refine w_callV0I (oj_24 _).choose_spec rfl (e_X4_laidStones isT24 ok2) ?_
      rintro z4 t4 ⟨rfl, hp4_0, hp4_1, hp4_2⟩
      have hcn : z4 = cnX t 1 n.toNat := by rw [hp4_0]; exact bh_cn i1_2
      refine w_istore (lv' := [some (.ref 23), some (.ref 1), some (.int (jI n)), some (.int (jI z4))]) rfl ?_
      refine w_iload rfl ?_
      refine w_push kc_12 ?_
      refine w_ceq (by omega) (fun h5 => ?_) (fun h5 => ?_)
      · skip
        refine w_step rfl ?_
        refine w_iload rfl ?_
        refine w_retI rfl ?_
        exact ⟨ok2, fr2, (by omega), (by omega), (by first | exact Or.inr ⟨by omega, by omega, by first | (show _ ∨ _; omega), i1_3⟩ | exact Or.inl ⟨rfl, fun k h1 h2 => i1_3 k h1 (by omega)⟩)⟩
      refine w_iload rfl ?_
      refine w_aload rfl ?_
      refine w_getR (g_23_0 _) ?_
      refine w_getI (g_24_10 _) fe_24_10 ok2 (fun z6 hz6 hl6 hh6 => ?_)
      have hst : z6 = tI t 1 10 := hz6.trans i1_2.1
      refine w_cne (by omega) (fun h7 => ?_) (fun h7 => ?_)
      · skip
        refine w_step rfl ?_
        refine w_aload rfl ?_
        refine w_getR (g_23_0 _) ?_
        refine w_callV0V (oj_24 _).choose_spec rfl (e_X4_passDay isT24 ok2 i1_2.2.1) ?_
        rintro t8 ⟨ok8, fq8, hp8_0, hp8_1, hp8_2⟩
        have fr8 := fr2.then fq8 (by simp)
        have bh2 : BHp t t8 1 (n + 1).toNat := by
          rw [show (n + 1).toNat = n.toNat + 1 by omega]
          exact bh_s i1_2 hp8_2 hp8_0 fq8 (by simp) (by simp) (by simp)
        refine w_iinc (lv' := [some (.ref 23), some (.ref 1), some (.int (jI (n + 1))), some (.int (jI z4))]) kc_1 rfl rfl ?_
        refine w_goto ?_
        exact ih1 _ (n + 1) (some z4) t8 ok8 fr8 (by omega) (by omega) bh2 (fun k h1 h2 => (Int.lt_or_eq_of_le (show k ≤ n by omega)).elim (i1_3 k h1) (fun e => by rw [e]; omega)) (by omega) (by omega)
      refine w_goto ?_
      refine w_step rfl ?_
      refine w_iload rfl ?_
      refine w_retI rfl ?_
      exact ⟨ok2, fr2, (by omega), (by omega), (by first | exact Or.inr ⟨by omega, by omega, by first | (show _ ∨ _; omega), i1_3⟩ | exact Or.inl ⟨rfl, fun k h1 h2 => i1_3 k h1 (by omega)⟩)⟩
  exact key1 202 _ 0 none t1 ok1 fr1 (by omega) (by omega) bh (fun k h1 h2 => by omega) (by omega) (by omega)
set_option maxRecDepth 100000 in
set_option maxHeartbeats 4000000 in
theorem e_X7_pictureWithout {d : Nat} {t : TS} {s n : Int}  (ok : OK t) (q0 : HCt t 1) (q1 : 0 ≤ s) (q2 : s ≤ 11) (q3 : s ≤ tI t 1 10 - 1) (q4 : 0 ≤ n) (q5 : n ≤ 1000) : CI (EX FU (d + 6)) 70 [.ref 23, .ref 1, .int (jI s), .int (jI n)] (mk t) (fun z t' => OK t' ∧ Fr [(24, 10), (24, 11), (24, 12), (24, 13), (24, 14), (25, 100), (26, 100), (27, 100), (28, 100), (29, 100), (30, 100), (31, 100), (32, 100), (34, 100), (33, 101)] t t' ∧ (0 ≤ z) ∧ (z ≤ 2376) ∧ (z = picG (tI t 1 10).toNat (OC t 1) (dysF (tI t 1 10).toNat (OC t 1) (tI t 1 12) (tI t 1 14) n.toNat (upF (tA t 5) s.toNat 13, tA t 6)))) := by
  refine CI_ent (d := d + 5) (Bk := bX7_pictureWithout) (nL := 4) rfl rfl rfl (Nat.le_of_ble_eq_true rfl) ?_
  show Rn _ 1000000 0 [some (.ref 23), some (.ref 1), some (.int (jI s)), some (.int (jI n))] [] _ _
  have fr : Fr [(24, 10), (24, 11), (24, 12), (24, 13), (24, 14), (25, 100), (26, 100), (27, 100), (28, 100), (29, 100), (30, 100), (31, 100), (32, 100), (34, 100), (33, 101)] t t := Fr.rf _ _
  have hc := q0
  have hnb := ok.f fe_1_10
  refine w_step rfl ?_
  refine w_aload rfl ?_
  refine w_getR (g_23_0 _) ?_
  refine w_aload rfl ?_
  refine w_callV1V (oj_24 _).choose_spec rfl (c_X4_become_24_1 ok) ?_
  rintro t1 ⟨ok1, fq1, hp1_0, hp1_1, hp1_2, hp1_3, hp1_4, hp1_5, hp1_6, hp1_7, hp1_8, hp1_9, hp1_10, hp1_11, hp1_12, hp1_13, hp1_14⟩
  have fr1 := fr.then fq1 (by simp)
  have bh : BHp t t1 1 0 := bh_0 hc (by omega) hp1_0 hp1_2 hp1_4 hp1_6 hp1_7 hp1_8 hp1_9 hp1_10 hp1_11 hp1_12
  refine w_aload rfl ?_
  refine w_getR (g_23_0 _) ?_
  refine w_iload rfl ?_
  refine w_push kc_13 ?_
  refine w_callV2V (oj_24 _).choose_spec rfl (e_X4_moveTo isT24 ok1 (by omega) (by omega) (by omega) (by omega)) ?_
  rintro t2 ⟨ok2, fq2, hp2_0, hp2_1⟩
  have fr2 := fr1.then fq2 (by simp)
  have wq := wo_1 bh (by omega) hp2_0 hp2_1 fq2 (by simp) (by simp) (by simp) (by simp) (by simp) (by simp) (by simp) (by simp)
  refine w_aload rfl ?_
  refine w_getR (g_23_0 _) ?_
  refine w_iload rfl ?_
  refine w_callV1V (oj_24 _).choose_spec rfl (e_X4_passDays isT24 ok2 wq.1 (by omega) (by omega) (by omega)) ?_
  rintro t3 ⟨ok3, fq3, hp3_0, hp3_1, hp3_2⟩
  have fr3 := fr2.then fq3 (by simp)
  have wr := wo_2 wq hp3_2 fq3
  refine w_aload rfl ?_
  refine w_getR (g_23_0 _) ?_
  refine w_callV0I (oj_24 _).choose_spec rfl (e_X4_picture isT24 ok3) ?_
  rintro z4 t4 ⟨rfl, hp4_0, hp4_1, hp4_2⟩
  refine w_retI rfl ?_
  exact ⟨ok3, fr3, (by omega), (by omega), (by rw [hp4_2]; exact wo_3 wr ok3)⟩
set_option maxRecDepth 100000 in
set_option maxHeartbeats 4000000 in
theorem e_X7_rightAhead {d : Nat} {t : TS} {n m : Int}  (ok : OK t) (q0 : HCt t 12) (q1 : 0 ≤ n) (q2 : n ≤ 30) (q3 : 0 ≤ m) (q4 : m ≤ 60) : CI (EX FU (d + 5)) 71 [.ref 23, .ref 12, .int (jI n), .ref 44, .int (jI m)] (mk t) (fun z t' => OK t' ∧ Fr [(24, 10), (24, 11), (24, 12), (24, 13), (24, 14), (25, 100), (26, 100), (27, 100), (28, 100), (29, 100), (30, 100), (31, 100), (32, 100), (34, 100), (33, 101)] t t' ∧ (-1 ≤ z) ∧ (z ≤ 60) ∧ (CkP (pcX t 12) (mtX t 12) (tA t 44) m (2 * n) (if z = -1 then 0 else 1 + z))) := by
  refine CI_ent (d := d + 4) (Bk := bX7_rightAhead) (nL := 7) rfl rfl rfl (Nat.le_of_ble_eq_true rfl) ?_
  show Rn _ 1000000 0 [some (.ref 23), some (.ref 12), some (.int (jI n)), some (.ref 44), some (.int (jI m)), none, none] [] _ _
  have fr : Fr [(24, 10), (24, 11), (24, 12), (24, 13), (24, 14), (25, 100), (26, 100), (27, 100), (28, 100), (29, 100), (30, 100), (31, 100), (32, 100), (34, 100), (33, 101)] t t := Fr.rf _ _
  have hc := q0
  have hnb := ok.f fe_12_10
  refine w_step rfl ?_
  refine w_aload rfl ?_
  refine w_getR (g_23_0 _) ?_
  refine w_aload rfl ?_
  refine w_callV1V (oj_24 _).choose_spec rfl (c_X4_become_24_12 ok) ?_
  rintro t1 ⟨ok1, fq1, hp1_0, hp1_1, hp1_2, hp1_3, hp1_4, hp1_5, hp1_6, hp1_7, hp1_8, hp1_9, hp1_10, hp1_11, hp1_12, hp1_13, hp1_14⟩
  have fr1 := fr.then fq1 (by simp)
  have bh : BHp t t1 12 0 := bh_0 hc (by omega) hp1_0 hp1_2 hp1_4 hp1_6 hp1_7 hp1_8 hp1_9 hp1_10 hp1_11 hp1_12
  refine w_push kc_0 ?_
  refine w_istore (lv' := [some (.ref 23), some (.ref 12), some (.int (jI n)), some (.ref 44), some (.int (jI m)), some (.int (jI 0)), none]) rfl ?_
  refine w_goto ?_
  have key1 : ∀ (n1 M1 : Nat) (i : Int) (o6 : Option Int) (t2 : TS), OK t2 → Fr [(24, 10), (24, 11), (24, 12), (24, 13), (24, 14), (25, 100), (26, 100), (27, 100), (28, 100), (29, 100), (30, 100), (31, 100), (32, 100), (34, 100), (33, 101)] t t2 → (0 ≤ i) → (i ≤ 2 * n) → (BHp t t2 12 ((i + 1) / 2).toNat) → (∀ k : Int, 0 ≤ k → k < i → k < m ∧ tA t 44 k.toNat = dueF (pcX t 12) (mtX t 12) k) → 60 - i < (n1 : Int) → 60 * n1 + (1000) ≤ M1 → Rn (bX7_rightAhead (EX FU (d + 4))) M1 1 [some (.ref 23), some (.ref 12), some (.int (jI n)), some (.ref 44), some (.int (jI m)), some (.int (jI i)), dv o6] [] (mk t2) (PI (fun z t' => OK t' ∧ Fr [(24, 10), (24, 11), (24, 12), (24, 13), (24, 14), (25, 100), (26, 100), (27, 100), (28, 100), (29, 100), (30, 100), (31, 100), (32, 100), (34, 100), (33, 101)] t t' ∧ (-1 ≤ z) ∧ (z ≤ 60) ∧ (CkP (pcX t 12) (mtX t 12) (tA t 44) m (2 * n) (if z = -1 then 0 else 1 + z)))) := by
    intro n1
    induction n1 with
    | zero => intro M1 i o6 t2 ok2 fr2 i1_0 i1_1 i1_2 i1_3 v1 f1; exfalso; omega
    | succ n1 ih1 =>
      intro M1 i o6 t2 ok2 fr2 i1_0 i1_1 i1_2 i1_3 v1 f1
      obtain ⟨M1, rfl⟩ : ∃ m, M1 = m + 60 := ⟨M1 - 60, by omega⟩
      refine w_step rfl ?_
      refine w_iload rfl ?_
      refine w_push kc_2 ?_
      refine w_iload rfl ?_
      refine w_mul ?_
      refine w_cge (by omega) (fun h3 => ?_) (fun h3 => ?_)
      · skip
        refine w_step rfl ?_
        refine w_iload rfl ?_
        refine w_push kc_2 ?_
        refine w_iload rfl ?_
        refine w_mul ?_
        refine w_cle (by omega) (fun h4 => ?_) (fun h4 => ?_)
        · skip
          refine w_step rfl ?_
          refine w_push kc_m1 ?_
          refine w_goto ?_
          refine w_step rfl ?_
          refine w_retI rfl ?_
          exact ⟨ok2, fr2, (by omega), (by omega), (by first | exact ⟨_, ⟨i1_0, i1_1, i1_3, Or.inr (by omega)⟩, by rw [if_neg (by omega), if_neg (by omega)]⟩ | exact ⟨2 * n, ⟨by omega, by omega, fun k h1 h2 => i1_3 k h1 (by omega), Or.inl rfl⟩, by rw [if_neg (by omega), if_neg (by omega)]⟩ | exact ⟨2 * n, ⟨by omega, by omega, fun k h1 h2 => i1_3 k h1 (by omega), Or.inl rfl⟩, by rw [if_pos rfl, if_pos ⟨by have h9 := i1_3 (2 * n - 1); omega, rfl⟩]⟩)⟩
        refine w_push kc_2 ?_
        refine w_iload rfl ?_
        refine w_mul ?_
        refine w_goto ?_
        refine w_step rfl ?_
        refine w_retI rfl ?_
        exact ⟨ok2, fr2, (by omega), (by omega), (by first | exact ⟨_, ⟨i1_0, i1_1, i1_3, Or.inr (by omega)⟩, by rw [if_neg (by omega), if_neg (by omega)]⟩ | exact ⟨2 * n, ⟨by omega, by omega, fun k h1 h2 => i1_3 k h1 (by omega), Or.inl rfl⟩, by rw [if_neg (by omega), if_neg (by omega)]⟩ | exact ⟨2 * n, ⟨by omega, by omega, fun k h1 h2 => i1_3 k h1 (by omega), Or.inl rfl⟩, by rw [if_pos rfl, if_pos ⟨by have h9 := i1_3 (2 * n - 1); omega, rfl⟩]⟩)⟩
      refine w_iload rfl ?_
      refine w_push kc_2 ?_
      refine w_rem (by omega) ?_
      refine w_ine (by omega) (fun h5 => ?_) (fun h5 => ?_)
      · skip
        refine w_step rfl ?_
        have bh2 : BHp t t2 12 ((i + 2) / 2).toNat := by first | exact bh2 | (rw [show ((i + 2) / 2).toNat = ((i + 1) / 2).toNat by omega]; exact i1_2) | omega
        refine w_iload rfl ?_
        refine w_push kc_2 ?_
        refine w_rem (by omega) ?_
        refine w_ine (by omega) (fun _ => ?_) (fun h => absurd (by omega) h)
        refine w_step rfl ?_
        refine w_aload rfl ?_
        refine w_getR (g_23_0 _) ?_
        refine w_callV0I (oj_24 _).choose_spec rfl (e_X4_matches isT24 ok2) ?_
        rintro z6 t6 ⟨rfl, hp6_0, hp6_1, hp6_2⟩
        have hdu : z6 = dueF (pcX t 12) (mtX t 12) i := by
          unfold dueF
          rw [if_neg (by omega), hp6_2, show (i / 2 + 1).toNat = ((i + 2) / 2).toNat by omega]
          exact bh_mat bh2 (by omega)
        refine w_goto ?_
        refine w_step rfl ?_
        refine w_istore (lv' := [some (.ref 23), some (.ref 12), some (.int (jI n)), some (.ref 44), some (.int (jI m)), some (.int (jI i)), some (.int (jI z6))]) rfl ?_
        refine w_iload rfl ?_
        refine w_iload rfl ?_
        refine w_cge (by omega) (fun h7 => ?_) (fun h7 => ?_)
        · skip
          refine w_step rfl ?_
          refine w_iload rfl ?_
          refine w_retI rfl ?_
          exact ⟨ok2, fr2, (by omega), (by omega), (by first | exact ⟨_, ⟨i1_0, i1_1, i1_3, Or.inr (by omega)⟩, by rw [if_neg (by omega), if_neg (by omega)]⟩ | exact ⟨2 * n, ⟨by omega, by omega, fun k h1 h2 => i1_3 k h1 (by omega), Or.inl rfl⟩, by rw [if_neg (by omega), if_neg (by omega)]⟩ | exact ⟨2 * n, ⟨by omega, by omega, fun k h1 h2 => i1_3 k h1 (by omega), Or.inl rfl⟩, by rw [if_pos rfl, if_pos ⟨by have h9 := i1_3 (2 * n - 1); omega, rfl⟩]⟩)⟩
        refine w_aload rfl ?_
        refine w_iload rfl ?_
        refine w_iald (i := (i).toNat) (ai_44 _) (by omega) (by omega) (ae_44 _) ok2 (fun z8 hz8 hl8 hh8 => ?_)
        have hw : z8 = tA t 44 i.toNat := by rw [hz8, fr2.2.1 44 (by simp)]
        refine w_iload rfl ?_
        refine w_ceq (by omega) (fun h9 => ?_) (fun h9 => ?_)
        · skip
          refine w_step rfl ?_
          refine w_iinc (lv' := [some (.ref 23), some (.ref 12), some (.int (jI n)), some (.ref 44), some (.int (jI m)), some (.int (jI (i + 1))), some (.int (jI z6))]) kc_1 rfl rfl ?_
          refine w_goto ?_
          exact ih1 _ (i + 1) (some z6) t2 ok2 fr2 (by omega) (by omega) (by rw [show ((i + 1 + 1) / 2).toNat = ((i + 2) / 2).toNat by omega]; exact bh2) (fun k h1 h2 => (Int.lt_or_eq_of_le (show k ≤ i by omega)).elim (i1_3 k h1) (fun e => by rw [e]; exact ⟨by omega, by omega⟩)) (by omega) (by omega)
        refine w_goto ?_
        refine w_step rfl ?_
        refine w_iload rfl ?_
        refine w_retI rfl ?_
        exact ⟨ok2, fr2, (by omega), (by omega), (by first | exact ⟨_, ⟨i1_0, i1_1, i1_3, Or.inr (by omega)⟩, by rw [if_neg (by omega), if_neg (by omega)]⟩ | exact ⟨2 * n, ⟨by omega, by omega, fun k h1 h2 => i1_3 k h1 (by omega), Or.inl rfl⟩, by rw [if_neg (by omega), if_neg (by omega)]⟩ | exact ⟨2 * n, ⟨by omega, by omega, fun k h1 h2 => i1_3 k h1 (by omega), Or.inl rfl⟩, by rw [if_pos rfl, if_pos ⟨by have h9 := i1_3 (2 * n - 1); omega, rfl⟩]⟩)⟩
      refine w_aload rfl ?_
      refine w_getR (g_23_0 _) ?_
      refine w_callV0V (oj_24 _).choose_spec rfl (e_X4_passDay isT24 ok2 i1_2.2.1) ?_
      rintro t10 ⟨ok10, fq10, hp10_0, hp10_1, hp10_2⟩
      have fr10 := fr2.then fq10 (by simp)
      have bh2 : BHp t t10 12 ((i + 2) / 2).toNat := by
        rw [show ((i + 2) / 2).toNat = ((i + 1) / 2).toNat + 1 by omega]
        exact bh_s i1_2 hp10_2 hp10_0 fq10 (by simp) (by simp) (by simp)
      refine w_goto ?_
      refine w_step rfl ?_
      have bh2 : BHp t t10 12 ((i + 2) / 2).toNat := by first | exact bh2 | (rw [show ((i + 2) / 2).toNat = ((i + 1) / 2).toNat by omega]; exact i1_2) | omega
      refine w_iload rfl ?_
      refine w_push kc_2 ?_
      refine w_rem (by omega) ?_
      refine w_ine (by omega) (fun h => absurd h (by omega)) (fun _ => ?_)
      refine w_aload rfl ?_
      refine w_getR (g_23_0 _) ?_
      refine w_callV0I (oj_24 _).choose_spec rfl (e_X4_picture isT24 ok10) ?_
      rintro z11 t11 ⟨rfl, hp11_0, hp11_1, hp11_2⟩
      have hdu : z11 = dueF (pcX t 12) (mtX t 12) i := by
        unfold dueF
        rw [if_pos (by omega), hp11_2, show (i / 2 + 1).toNat = ((i + 2) / 2).toNat by omega]
        exact bh_pic bh2 ok10
      refine w_goto ?_
      refine w_step rfl ?_
      refine w_istore (lv' := [some (.ref 23), some (.ref 12), some (.int (jI n)), some (.ref 44), some (.int (jI m)), some (.int (jI i)), some (.int (jI z11))]) rfl ?_
      refine w_iload rfl ?_
      refine w_iload rfl ?_
      refine w_cge (by omega) (fun h12 => ?_) (fun h12 => ?_)
      · skip
        refine w_step rfl ?_
        refine w_iload rfl ?_
        refine w_retI rfl ?_
        exact ⟨ok10, fr10, (by omega), (by omega), (by first | exact ⟨_, ⟨i1_0, i1_1, i1_3, Or.inr (by omega)⟩, by rw [if_neg (by omega), if_neg (by omega)]⟩ | exact ⟨2 * n, ⟨by omega, by omega, fun k h1 h2 => i1_3 k h1 (by omega), Or.inl rfl⟩, by rw [if_neg (by omega), if_neg (by omega)]⟩ | exact ⟨2 * n, ⟨by omega, by omega, fun k h1 h2 => i1_3 k h1 (by omega), Or.inl rfl⟩, by rw [if_pos rfl, if_pos ⟨by have h9 := i1_3 (2 * n - 1); omega, rfl⟩]⟩)⟩
      refine w_aload rfl ?_
      refine w_iload rfl ?_
      refine w_iald (i := (i).toNat) (ai_44 _) (by omega) (by omega) (ae_44 _) ok10 (fun z13 hz13 hl13 hh13 => ?_)
      have hw : z13 = tA t 44 i.toNat := by rw [hz13, fr10.2.1 44 (by simp)]
      refine w_iload rfl ?_
      refine w_ceq (by omega) (fun h14 => ?_) (fun h14 => ?_)
      · skip
        refine w_step rfl ?_
        refine w_iinc (lv' := [some (.ref 23), some (.ref 12), some (.int (jI n)), some (.ref 44), some (.int (jI m)), some (.int (jI (i + 1))), some (.int (jI z11))]) kc_1 rfl rfl ?_
        refine w_goto ?_
        exact ih1 _ (i + 1) (some z11) t10 ok10 fr10 (by omega) (by omega) (by rw [show ((i + 1 + 1) / 2).toNat = ((i + 2) / 2).toNat by omega]; exact bh2) (fun k h1 h2 => (Int.lt_or_eq_of_le (show k ≤ i by omega)).elim (i1_3 k h1) (fun e => by rw [e]; exact ⟨by omega, by omega⟩)) (by omega) (by omega)
      refine w_goto ?_
      refine w_step rfl ?_
      refine w_iload rfl ?_
      refine w_retI rfl ?_
      exact ⟨ok10, fr10, (by omega), (by omega), (by first | exact ⟨_, ⟨i1_0, i1_1, i1_3, Or.inr (by omega)⟩, by rw [if_neg (by omega), if_neg (by omega)]⟩ | exact ⟨2 * n, ⟨by omega, by omega, fun k h1 h2 => i1_3 k h1 (by omega), Or.inl rfl⟩, by rw [if_neg (by omega), if_neg (by omega)]⟩ | exact ⟨2 * n, ⟨by omega, by omega, fun k h1 h2 => i1_3 k h1 (by omega), Or.inl rfl⟩, by rw [if_pos rfl, if_pos ⟨by have h9 := i1_3 (2 * n - 1); omega, rfl⟩]⟩)⟩
  exact key1 61 _ 0 none t1 ok1 fr1 (by omega) (by omega) bh (fun k h1 h2 => by omega) (by omega) (by omega)
