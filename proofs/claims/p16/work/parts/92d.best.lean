set_option maxRecDepth 100000 in
set_option maxHeartbeats 4000000 in
theorem e_X7_offerStone {d : Nat} {t : TS} {s m : Int}  (ok : OK t) (q0 : 0 ≤ s) (q1 : s ≤ 11) (q2 : 1 ≤ m) (q3 : m ≤ 6) (q4 : ∀ a : Nat, a < 64 → 0 ≤ tA t 35 a ∧ tA t 35 a ≤ 16777216) : CV (EX FU (d + 4)) 73 [.ref 23, .ref 1, .int (jI s), .int (jI m)] (mk t) (fun t' => OK t' ∧ Fr [(35, 100), (36, 100)] t t' ∧ (∀ a : Nat, a < 2 ^ m.toNat → tA t' 35 a = mnF (tA t 35) (osF t s.toNat) a m.toNat) ∧ (∀ a : Nat, 2 ^ m.toNat ≤ a → tA t' 35 a = tA t 35 a)) := by
  refine CV_ent (d := d + 3) (Bk := bX7_offerStone) (nL := 6) rfl rfl rfl (Nat.le_of_ble_eq_true rfl) ?_
  show Rn _ 1000000 0 [some (.ref 23), some (.ref 1), some (.int (jI s)), some (.int (jI m)), none, none] [] _ _
  have fr : Fr [(35, 100), (36, 100)] t t := Fr.rf _ _
  have h64 := p2_6 (m := m) ⟨q2, q3⟩
  refine w_step rfl ?_
  refine w_push kc_0 ?_
  refine w_istore (lv' := [some (.ref 23), some (.ref 1), some (.int (jI s)), some (.int (jI m)), some (.int (jI 0)), none]) rfl ?_
  refine w_goto ?_
  have key1 : ∀ (n1 M1 : Nat) (p : Int) (t1 : TS), OK t1 → Fr [(35, 100), (36, 100)] t t1 → (0 ≤ p) → (p ≤ m) → (∀ q : Nat, (q : Int) < p → tA t1 36 q = osF t s.toNat q) → (∀ a : Nat, tA t1 35 a = tA t 35 a) → 6 - p < (n1 : Int) → 60 * n1 + (90000) ≤ M1 → Rn (bX7_offerStone (EX FU (d + 3))) M1 1 [some (.ref 23), some (.ref 1), some (.int (jI s)), some (.int (jI m)), some (.int (jI p)), none] [] (mk t1) (PV (fun t' => OK t' ∧ Fr [(35, 100), (36, 100)] t t' ∧ (∀ a : Nat, a < 2 ^ m.toNat → tA t' 35 a = mnF (tA t 35) (osF t s.toNat) a m.toNat) ∧ (∀ a : Nat, 2 ^ m.toNat ≤ a → tA t' 35 a = tA t 35 a))) := by
    intro n1
    induction n1 with
    | zero => intro M1 p t1 ok1 fr1 i1_0 i1_1 i1_2 i1_3 v1 f1; exfalso; omega
    | succ n1 ih1 =>
      intro M1 p t1 ok1 fr1 i1_0 i1_1 i1_2 i1_3 v1 f1
      obtain ⟨M1, rfl⟩ : ∃ m, M1 = m + 60 := ⟨M1 - 60, by omega⟩
      refine w_step rfl ?_
      refine w_iload rfl ?_
      refine w_iload rfl ?_
      refine w_cge (by omega) (fun h2 => ?_) (fun h2 => ?_)
      · skip
        refine w_step rfl ?_
        refine w_push kc_1 ?_
        refine w_iload rfl ?_
        refine w_bin (fun z3 hz3 hl3 hh3 => ?_)
        have hsh := sh_i (by omega) hz3
        have hshu := shl_r (by omega) hz3
        refine w_push kc_1 ?_
        refine w_sub ?_
        refine w_istore (lv' := [some (.ref 23), some (.ref 1), some (.int (jI s)), some (.int (jI m)), some (.int (jI (z3 - 1))), none]) rfl ?_
        refine w_goto ?_
        have key5 : ∀ (n5 M5 : Nat) (e : Int) (o5 : Option Int) (t4 : TS), OK t4 → Fr [(35, 100), (36, 100)] t t4 → (0 ≤ e) → (e ≤ 63) → (e < ((2 ^ m.toNat : Nat) : Int)) → (∀ a : Nat, (a : Int) ≤ e → tA t4 35 a = tA t 35 a) → (∀ a : Nat, e < (a : Int) → a < 2 ^ m.toNat → tA t4 35 a = mnF (tA t 35) (osF t s.toNat) a m.toNat) → (∀ q : Nat, (q : Int) < m → tA t4 36 q = osF t s.toNat q) → (∀ a : Nat, 2 ^ m.toNat ≤ a → tA t4 35 a = tA t 35 a) → e < (n5 : Int) → 1000 * n5 + (1000) ≤ M5 → Rn (bX7_offerStone (EX FU (d + 3))) M5 5 [some (.ref 23), some (.ref 1), some (.int (jI s)), some (.int (jI m)), some (.int (jI e)), dv o5] [] (mk t4) (PV (fun t' => OK t' ∧ Fr [(35, 100), (36, 100)] t t' ∧ (∀ a : Nat, a < 2 ^ m.toNat → tA t' 35 a = mnF (tA t 35) (osF t s.toNat) a m.toNat) ∧ (∀ a : Nat, 2 ^ m.toNat ≤ a → tA t' 35 a = tA t 35 a))) := by
          intro n5
          induction n5 with
          | zero => intro M5 e o5 t4 ok4 fr4 i5_0 i5_1 i5_2 i5_3 i5_4 i5_5 i5_6 v5 f5; exfalso; omega
          | succ n5 ih5 =>
            intro M5 e o5 t4 ok4 fr4 i5_0 i5_1 i5_2 i5_3 i5_4 i5_5 i5_6 v5 f5
            obtain ⟨M5, rfl⟩ : ∃ m, M5 = m + 1000 := ⟨M5 - 1000, by omega⟩
            refine w_step rfl ?_
            refine w_iload rfl ?_
            refine w_ile (by omega) (fun h5 => ?_) (fun h5 => ?_)
            · skip
              refine w_step rfl ?_
              refine w_retV ?_
              exact ⟨ok4, fr4, (fun a ha => (Nat.eq_zero_or_pos a).elim (fun q => by rw [q, mnF_0]; exact i5_3 0 (by omega)) (fun q => i5_4 a (by omega) ha)), (fun a ha => i5_6 a ha)⟩
            refine w_push kc_0 ?_
            refine w_istore (lv' := [some (.ref 23), some (.ref 1), some (.int (jI s)), some (.int (jI m)), some (.int (jI e)), some (.int (jI 0))]) rfl ?_
            refine w_goto ?_
            have key6 : ∀ (n6 M6 : Nat) (p : Int) (t6 : TS), OK t6 → Fr [(35, 100), (36, 100)] t t6 → (0 ≤ p) → (p ≤ m) → (∀ a : Nat, (a : Int) < e → tA t6 35 a = tA t 35 a) → (∀ a : Nat, e < (a : Int) → a < 2 ^ m.toNat → tA t6 35 a = mnF (tA t 35) (osF t s.toNat) a m.toNat) → (tA t6 35 e.toNat = mnF (tA t 35) (osF t s.toNat) e.toNat p.toNat) → (∀ q : Nat, (q : Int) < m → tA t6 36 q = osF t s.toNat q) → (∀ a : Nat, 2 ^ m.toNat ≤ a → tA t6 35 a = tA t 35 a) → 6 - p < (n6 : Int) → 60 * n6 + (1000 * n5 + 1000) ≤ M6 → Rn (bX7_offerStone (EX FU (d + 3))) M6 6 [some (.ref 23), some (.ref 1), some (.int (jI s)), some (.int (jI m)), some (.int (jI e)), some (.int (jI p))] [] (mk t6) (PV (fun t' => OK t' ∧ Fr [(35, 100), (36, 100)] t t' ∧ (∀ a : Nat, a < 2 ^ m.toNat → tA t' 35 a = mnF (tA t 35) (osF t s.toNat) a m.toNat) ∧ (∀ a : Nat, 2 ^ m.toNat ≤ a → tA t' 35 a = tA t 35 a))) := by
              intro n6
              induction n6 with
              | zero => intro M6 p t6 ok6 fr6 i6_0 i6_1 i6_2 i6_3 i6_4 i6_5 i6_6 v6 f6; exfalso; omega
              | succ n6 ih6 =>
                intro M6 p t6 ok6 fr6 i6_0 i6_1 i6_2 i6_3 i6_4 i6_5 i6_6 v6 f6
                obtain ⟨M6, rfl⟩ : ∃ m, M6 = m + 60 := ⟨M6 - 60, by omega⟩
                refine w_step rfl ?_
                refine w_iload rfl ?_
                refine w_iload rfl ?_
                refine w_cge (by omega) (fun h7 => ?_) (fun h7 => ?_)
                · skip
                  refine w_step rfl ?_
                  refine w_iinc (lv' := [some (.ref 23), some (.ref 1), some (.int (jI s)), some (.int (jI m)), some (.int (jI (e + (-1)))), some (.int (jI p))]) kc_m1 rfl rfl ?_
                  refine w_goto ?_
                  exact ih5 _ (e + (-1)) (some p) t6 ok6 fr6 (by omega) (by omega) (by omega) (fun a h => i6_2 a (by omega)) (fun a h1 h2 => (Int.lt_or_eq_of_le (show e ≤ a by omega)).elim (fun h3 => i6_3 a h3 h2) (fun h3 => by rw [show a = e.toNat by omega, i6_4, show p = m by omega])) i6_5 i6_6 (by omega) (by omega)
                refine w_iload rfl ?_
                refine w_iload rfl ?_
                refine w_bin (fun z8 hz8 hl8 hh8 => ?_)
                have hb1 := hz8
                refine w_push kc_1 ?_
                refine w_bin (fun z9 hz9 hl9 hh9 => ?_)
                have hu9 := ah_and1 hz9
                have hb2 := hz9
                have hbt := bt_i i5_0 (by omega) hb1 hb2
                refine w_ieq (by omega) (fun h10 => ?_) (fun h10 => ?_)
                · skip
                  refine w_step rfl ?_
                  refine w_iinc (lv' := [some (.ref 23), some (.ref 1), some (.int (jI s)), some (.int (jI m)), some (.int (jI e)), some (.int (jI (p + 1)))]) kc_1 rfl rfl ?_
                  refine w_goto ?_
                  have e6 : tA t6 35 e.toNat = mnF (tA t 35) (osF t s.toNat) e.toNat (p + 1).toNat := by
                    first
                      | (rw [mn_n i6_0 (by rcases hbt with h | h <;> first | exact h.2 | omega)]; exact i6_4)
                      | (rw [mn_y i6_0 (by rcases hbt with h | h <;> first | exact h.2 | omega), ht99qq, tA_uA, if_pos ⟨rfl, rfl⟩, ← i6_4, ← hr24, ← hr28, hz99qq])
                      | omega
                  exact ih6 _ (p + 1) t6 ok6 fr6 (by omega) (by omega) (fun a h => by first | exact i6_2 a h | (rw [ht99qq, tA_uA, if_neg (by omega)]; exact i6_2 a h)) (fun a h1 h2 => by first | exact i6_3 a h1 h2 | (rw [ht99qq, tA_uA, if_neg (by omega)]; exact i6_3 a h1 h2)) e6 (fun q h => by first | exact i6_5 q h | (rw [ht99qq, tA_uA, if_neg (by omega)]; exact i6_5 q h)) (fun a h => by first | exact i6_6 a h | (rw [ht99qq, tA_uA, if_neg (by omega)]; exact i6_6 a h)) (by omega) (by omega)
                refine w_aload rfl ?_
                refine w_getR (g_23_1 _) ?_
                refine w_iload rfl ?_
                refine w_aload rfl ?_
                refine w_getR (g_23_1 _) ?_
                refine w_iload rfl ?_
                refine w_iald (i := (e).toNat) (ai_35 _) (by omega) (by omega) (ae_35 _) ok6 (fun z11 hz11 hl11 hh11 => ?_)
                have hr16 : 0 ≤ z11 ∧ z11 ≤ 16777216 := by rw [hz11, i6_4]; exact mn_r ok ⟨q2, q3⟩ i5_2 i5_0 (by omega) q4
                refine w_aload rfl ?_
                refine w_getR (g_23_1 _) ?_
                refine w_iload rfl ?_
                refine w_push kc_1 ?_
                refine w_iload rfl ?_
                refine w_bin (fun z12 hz12 hl12 hh12 => ?_)
                have hs22 := sh_i (by omega) hz12
                have hu22 := shl_r (by omega) hz12
                have hb3 := bit_sub (by omega) (by omega) hb1 hb2 (by omega) hz12
                refine w_sub ?_
                refine w_iald (i := ((e - z12)).toNat) (ai_35 _) (by omega) (by omega) (ae_35 _) ok6 (fun z13 hz13 hl13 hh13 => ?_)
                have hr24 : z13 = tA t 35 (e.toNat - 2 ^ p.toNat) := by rw [hz13, i6_2 _ (by omega)]; congr 1; omega
                have hr24b := q4 (e.toNat - 2 ^ p.toNat) (by omega)
                refine w_aload rfl ?_
                refine w_getR (g_23_2 _) ?_
                refine w_iload rfl ?_
                refine w_iald (i := (p).toNat) (ai_36 _) (by omega) (by omega) (ae_36 _) ok6 (fun z14 hz14 hl14 hh14 => ?_)
                have hr28 : z14 = osF t s.toNat p.toNat := by rw [hz14]; exact i6_5 _ (by omega)
                refine w_add ?_
                refine w_min rfl (by omega) ?_
                refine w_iast (i := (e).toNat) (ai_35 _) rfl (by omega) (by omega) (ae_35 _) ok6 (by omega) (fun t15 ht15 ok15 => ?_)
                have fr15 := fr6.uA ht15 (by simp)
                refine w_goto ?_
                refine w_step rfl ?_
                refine w_iinc (lv' := [some (.ref 23), some (.ref 1), some (.int (jI s)), some (.int (jI m)), some (.int (jI e)), some (.int (jI (p + 1)))]) kc_1 rfl rfl ?_
                refine w_goto ?_
                have e6 : tA t15 35 e.toNat = mnF (tA t 35) (osF t s.toNat) e.toNat (p + 1).toNat := by
                  first
                    | (rw [mn_n i6_0 (by rcases hbt with h | h <;> first | exact h.2 | omega)]; exact i6_4)
                    | (rw [mn_y i6_0 (by rcases hbt with h | h <;> first | exact h.2 | omega), ht15, tA_uA, if_pos ⟨rfl, rfl⟩, ← i6_4, ← hr24, ← hr28, hz11])
                    | omega
                exact ih6 _ (p + 1) t15 ok15 fr15 (by omega) (by omega) (fun a h => by first | exact i6_2 a h | (rw [ht15, tA_uA, if_neg (by omega)]; exact i6_2 a h)) (fun a h1 h2 => by first | exact i6_3 a h1 h2 | (rw [ht15, tA_uA, if_neg (by omega)]; exact i6_3 a h1 h2)) e6 (fun q h => by first | exact i6_5 q h | (rw [ht15, tA_uA, if_neg (by omega)]; exact i6_5 q h)) (fun a h => by first | exact i6_6 a h | (rw [ht15, tA_uA, if_neg (by omega)]; exact i6_6 a h)) (by omega) (by omega)
            exact key6 7 _ 0 t4 ok4 fr4 (by omega) (by omega) (fun a h => i5_3 a (by omega)) i5_4 (i5_3 _ (by omega)) i5_5 i5_6 (by omega) (by omega)
        exact key5 64 _ (z3 - 1) none t1 ok1 fr1 (by omega) (by omega) (by omega) (fun a _ => i1_3 a) (fun a h1 h2 => by omega) (fun q h => i1_2 q (by omega)) (fun a _ => i1_3 a) (by omega) (by omega)
      refine w_aload rfl ?_
      refine w_getR (g_23_2 _) ?_
      refine w_iload rfl ?_
      refine w_push kc_16 ?_
      refine w_aload rfl ?_
      refine w_iload rfl ?_
      refine w_iload rfl ?_
      refine w_callV2I (oj_1 _).choose_spec rfl (e_X4_leastOff isT1 ok1 (by omega) (by omega) (by omega) (by omega)) ?_
      rintro z16 t16 ⟨rfl, hp16_0, hp16_1, hp16_2⟩
      have hle : z16 = cCm t s.toNat p.toNat := by
        rw [hp16_0, oc_fr fr1 (by simp) (by simp)]
        rfl
      refine w_mul ?_
      refine w_iload rfl ?_
      refine w_ine (by omega) (fun h17 => ?_) (fun h17 => ?_)
      · skip
        refine w_step rfl ?_
        refine w_push kc_0 ?_
        refine w_goto ?_
        refine w_step rfl ?_
        refine w_add ?_
        refine w_iast (i := (p).toNat) (ai_36 _) rfl (by omega) (by omega) (ae_36 _) ok1 (by omega) (fun t18 ht18 ok18 => ?_)
        have fr18 := fr1.uA ht18 (by simp)
        refine w_iinc (lv' := [some (.ref 23), some (.ref 1), some (.int (jI s)), some (.int (jI m)), some (.int (jI (p + 1))), none]) kc_1 rfl rfl ?_
        refine w_goto ?_
        exact ih1 _ (p + 1) t18 ok18 fr18 (by omega) (by omega) (os_s i1_2 i1_0 (by omega) ht18 hle (by omega)) (fun a => by rw [ht18, tA_uA, if_neg (by omega)]; exact i1_3 a) (by omega) (by omega)
      refine w_iload rfl ?_
      refine w_goto ?_
      refine w_step rfl ?_
      refine w_add ?_
      refine w_iast (i := (p).toNat) (ai_36 _) rfl (by omega) (by omega) (ae_36 _) ok1 (by omega) (fun t19 ht19 ok19 => ?_)
      have fr19 := fr1.uA ht19 (by simp)
      refine w_iinc (lv' := [some (.ref 23), some (.ref 1), some (.int (jI s)), some (.int (jI m)), some (.int (jI (p + 1))), none]) kc_1 rfl rfl ?_
      refine w_goto ?_
      exact ih1 _ (p + 1) t19 ok19 fr19 (by omega) (by omega) (os_s i1_2 i1_0 (by omega) ht19 hle (by omega)) (fun a => by rw [ht19, tA_uA, if_neg (by omega)]; exact i1_3 a) (by omega) (by omega)
  exact key1 7 _ 0 t ok fr (by omega) (by omega) (fun q h => by omega) (fun _ => rfl) (by omega) (by omega)
set_option maxRecDepth 100000 in
set_option maxHeartbeats 4000000 in
theorem e_X7_bestLaying {d : Nat} {t : TS} {m w : Int}  (ok : OK t) (q0 : 1 ≤ m) (q1 : m ≤ 6) (q2 : -2147483648 ≤ w) (q3 : w ≤ 2147483647) : CI (EX FU (d + 5)) 72 [.ref 23, .ref 1, .int (jI m), .int (jI w)] (mk t) (fun z t' => OK t' ∧ Fr [(35, 100), (36, 100)] t t' ∧ (BAp (LCm t m) (cCm t) (tI t 1 10).toNat m.toNat w z)) := by
  refine CI_ent (d := d + 4) (Bk := bX7_bestLaying) (nL := 5) rfl rfl rfl (Nat.le_of_ble_eq_true rfl) ?_
  show Rn _ 1000000 0 [some (.ref 23), some (.ref 1), some (.int (jI m)), some (.int (jI w)), none] [] _ _
  have fr : Fr [(35, 100), (36, 100)] t t := Fr.rf _ _
  have hnb := ok.f fe_1_10
  have h64 := p2_6 (m := m) ⟨q0, q1⟩
  refine w_step rfl ?_
  refine w_aload rfl ?_
  refine w_getR (g_23_1 _) ?_
  refine w_push kc_16777216 ?_
  refine w_callS2V rfl (c_J7_fill_53178 (fun u => ai_35 u) ok (by intro i; rw [(ae_35 i)]; exact ⟨by decide, by decide⟩)) ?_
  rintro t1 ⟨ok1, fq1, hp1_0⟩
  have fr1 := fr.then fq1 (by simp)
  have hfi := hp1_0
  refine w_aload rfl ?_
  refine w_getR (g_23_1 _) ?_
  refine w_push kc_0 ?_
  refine w_push kc_0 ?_
  refine w_iast (i := 0) (ai_35 _) rfl (by omega) (by omega) (ae_35 _) ok1 (by omega) (fun t2 ht2 ok2 => ?_)
  have fr2 := fr1.uA ht2 (by simp)
  have h00 : tA t2 35 0 = 0 := by rw [ht2, tA_uA, if_pos ⟨rfl, rfl⟩]
  have h01 : ∀ a : Nat, 1 ≤ a → a < 2 ^ m.toNat → tA t2 35 a = 16777216 := fun a h1 h2 => by rw [ht2, tA_uA, if_neg (by omega)]; exact hfi a (by omega)
  refine w_push kc_0 ?_
  refine w_istore (lv' := [some (.ref 23), some (.ref 1), some (.int (jI m)), some (.int (jI w)), some (.int (jI 0))]) rfl ?_
  refine w_goto ?_
  have key1 : ∀ (n1 M1 : Nat) (s : Int) (t3 : TS), OK t3 → Fr [(35, 100), (36, 100)] t t3 → (0 ≤ s) → (s ≤ 12) → (s ≤ tI t 1 10) → (CW (LCm t m) (osF t) m.toNat s.toNat (tA t3 35)) → (∀ a : Nat, a < 64 → 0 ≤ tA t3 35 a ∧ tA t3 35 a ≤ 16777216) → 12 - s < (n1 : Int) → 60 * n1 + (1000) ≤ M1 → Rn (bX7_bestLaying (EX FU (d + 4))) M1 1 [some (.ref 23), some (.ref 1), some (.int (jI m)), some (.int (jI w)), some (.int (jI s))] [] (mk t3) (PI (fun z t' => OK t' ∧ Fr [(35, 100), (36, 100)] t t' ∧ (BAp (LCm t m) (cCm t) (tI t 1 10).toNat m.toNat w z))) := by
    intro n1
    induction n1 with
    | zero => intro M1 s t3 ok3 fr3 i1_0 i1_1 i1_2 i1_3 i1_4 v1 f1; exfalso; omega
    | succ n1 ih1 =>
      intro M1 s t3 ok3 fr3 i1_0 i1_1 i1_2 i1_3 i1_4 v1 f1
      obtain ⟨M1, rfl⟩ : ∃ m, M1 = m + 60 := ⟨M1 - 60, by omega⟩
      have hfrc := fr3
      have hcr := i1_4
      have hnn : tI t3 1 10 = tI t 1 10 := fr3.1 1 10 (by simp)
      refine w_step rfl ?_
      refine w_iload rfl ?_
      refine w_aload rfl ?_
      refine w_getI (g_1_10 _) fe_1_10 ok3 (fun z4 hz4 hl4 hh4 => ?_)
      refine w_cge (by omega) (fun h5 => ?_) (fun h5 => ?_)
      · skip
        refine w_step rfl ?_
        refine w_aload rfl ?_
        refine w_getR (g_23_1 _) ?_
        refine w_push kc_1 ?_
        refine w_iload rfl ?_
        refine w_bin (fun z6 hz6 hl6 hh6 => ?_)
        have hsh := sh_i (by omega) hz6
        have hshu := shl_r (by omega) hz6
        refine w_push kc_1 ?_
        refine w_sub ?_
        refine w_iald (i := ((z6 - 1)).toNat) (ai_35 _) (by omega) (by omega) (ae_35 _) ok3 (fun z7 hz7 hl7 hh7 => ?_)
        have hxr : 0 ≤ z7 := by rw [hz7, show ((z6 - 1)).toNat = 2 ^ m.toNat - 1 by omega]; exact (cw_r i1_3 (by omega)).1
        refine w_istore (lv' := [some (.ref 23), some (.ref 1), some (.int (jI m)), some (.int (jI w)), some (.int (jI z7))]) rfl ?_
        refine w_iload rfl ?_
        refine w_push kc_16777216 ?_
        refine w_clt (by omega) (fun h8 => ?_) (fun h8 => ?_)
        · skip
          refine w_step rfl ?_
          refine w_iload rfl ?_
          refine w_ine (by omega) (fun h9 => ?_) (fun h9 => ?_)
          · skip
            refine w_step rfl ?_
            refine w_iload rfl ?_
            refine w_push kc_16 ?_
            refine w_rem (by omega) ?_
            refine w_goto ?_
            refine w_step rfl ?_
            refine w_retI rfl ?_
            exact ⟨ok3, fr3, (cw_e ok ⟨q0, q1⟩ i1_3 (by omega) (by omega) hsh hz7 (by omega))⟩
          refine w_iload rfl ?_
          refine w_push kc_16 ?_
          refine w_div (by omega) ?_
          refine w_goto ?_
          refine w_step rfl ?_
          refine w_retI rfl ?_
          exact ⟨ok3, fr3, (cw_e ok ⟨q0, q1⟩ i1_3 (by omega) (by omega) hsh hz7 (by omega))⟩
        refine w_push kc_m1000000005 ?_
        refine w_retI rfl ?_
        exact ⟨ok3, fr3, (cw_e ok ⟨q0, q1⟩ i1_3 (by omega) (by omega) hsh hz7 (by omega))⟩
      refine w_aload rfl ?_
      refine w_getR (g_1_3 _) ?_
      refine w_iload rfl ?_
      refine w_iald (i := (s).toNat) (ai_5 _) (by omega) (by omega) (ae_5 _) ok3 (fun z10 hz10 hl10 hh10 => ?_)
      have hpa : z10 = tA t 5 s.toNat := by rw [hz10, fr3.2.1 5 (by simp)]
      refine w_push kc_12 ?_
      refine w_ceq (by omega) (fun h11 => ?_) (fun h11 => ?_)
      · skip
        refine w_step rfl ?_
        refine w_aload rfl ?_
        refine w_aload rfl ?_
        refine w_iload rfl ?_
        refine w_iload rfl ?_
        refine w_callV3V (oj_23 _).choose_spec rfl (e_X7_offerStone ok3 (by omega) (by omega) (by omega) (by omega) hcr) ?_
        rintro t12 ⟨ok12, fq12, hp12_0, hp12_1⟩
        have fr12 := fr3.then fq12 (by simp)
        have hof : ∀ a : Nat, a < 2 ^ m.toNat → tA t12 35 a = mnF (tA t3 35) (osF t s.toNat) a m.toNat := fun a ha => by have h9 := hp12_0 a ha; rw [osF_fr hfrc (by simp) (by simp)] at h9; exact h9
        have hor : ∀ a : Nat, a < 64 → 0 ≤ tA t12 35 a ∧ tA t12 35 a ≤ 16777216 := fun a ha => by
          by_cases h9 : a < 2 ^ m.toNat
          · exact cw_r (cw_y ok ⟨q0, q1⟩ i1_3 i1_0 (by omega) hof) h9
          · rw [hp12_1 a (by omega)]; exact hcr a ha
        refine w_goto ?_
        refine w_step rfl ?_
        refine w_iinc (lv' := [some (.ref 23), some (.ref 1), some (.int (jI m)), some (.int (jI w)), some (.int (jI (s + 1)))]) kc_1 rfl rfl ?_
        refine w_goto ?_
        have hnr : ∀ a : Nat, a < 64 → 0 ≤ tA t12 35 a ∧ tA t12 35 a ≤ 16777216 := by first | exact i1_4 | exact hor
        exact ih1 _ (s + 1) t12 ok12 fr12 (by omega) (by omega) (by omega) (by first | exact cw_y ok ⟨q0, q1⟩ i1_3 i1_0 (by omega) hof | exact cw_n i1_3 i1_0 (by omega) | omega) hnr (by omega) (by omega)
      refine w_aload rfl ?_
      refine w_getR (g_1_3 _) ?_
      refine w_iload rfl ?_
      refine w_iald (i := (s).toNat) (ai_5 _) (by omega) (by omega) (ae_5 _) ok3 (fun z13 hz13 hl13 hh13 => ?_)
      have hpb : z13 = tA t 5 s.toNat := by rw [hz13, fr3.2.1 5 (by simp)]
      have hfr1 := fr3
      have hcw := i1_3
      refine w_iload rfl ?_
      refine w_cge (by omega) (fun h14 => ?_) (fun h14 => ?_)
      · skip
        refine w_step rfl ?_
        refine w_iinc (lv' := [some (.ref 23), some (.ref 1), some (.int (jI m)), some (.int (jI w)), some (.int (jI (s + 1)))]) kc_1 rfl rfl ?_
        refine w_goto ?_
        have hnr : ∀ a : Nat, a < 64 → 0 ≤ tA t3 35 a ∧ tA t3 35 a ≤ 16777216 := by first | exact i1_4 | exact hor
        exact ih1 _ (s + 1) t3 ok3 fr3 (by omega) (by omega) (by omega) (by first | exact cw_y ok ⟨q0, q1⟩ i1_3 i1_0 (by omega) hof | exact cw_n i1_3 i1_0 (by omega) | omega) hnr (by omega) (by omega)
      refine w_goto ?_
      refine w_step rfl ?_
      refine w_aload rfl ?_
      refine w_aload rfl ?_
      refine w_iload rfl ?_
      refine w_iload rfl ?_
      refine w_callV3V (oj_23 _).choose_spec rfl (e_X7_offerStone ok3 (by omega) (by omega) (by omega) (by omega) hcr) ?_
      rintro t15 ⟨ok15, fq15, hp15_0, hp15_1⟩
      have fr15 := fr3.then fq15 (by simp)
      have hof : ∀ a : Nat, a < 2 ^ m.toNat → tA t15 35 a = mnF (tA t3 35) (osF t s.toNat) a m.toNat := fun a ha => by have h9 := hp15_0 a ha; rw [osF_fr hfrc (by simp) (by simp)] at h9; exact h9
      have hor : ∀ a : Nat, a < 64 → 0 ≤ tA t15 35 a ∧ tA t15 35 a ≤ 16777216 := fun a ha => by
        by_cases h9 : a < 2 ^ m.toNat
        · exact cw_r (cw_y ok ⟨q0, q1⟩ i1_3 i1_0 (by omega) hof) h9
        · rw [hp15_1 a (by omega)]; exact hcr a ha
      refine w_goto ?_
      refine w_step rfl ?_
      refine w_iinc (lv' := [some (.ref 23), some (.ref 1), some (.int (jI m)), some (.int (jI w)), some (.int (jI (s + 1)))]) kc_1 rfl rfl ?_
      refine w_goto ?_
      have hnr : ∀ a : Nat, a < 64 → 0 ≤ tA t15 35 a ∧ tA t15 35 a ≤ 16777216 := by first | exact i1_4 | exact hor
      exact ih1 _ (s + 1) t15 ok15 fr15 (by omega) (by omega) (by omega) (by first | exact cw_y ok ⟨q0, q1⟩ i1_3 i1_0 (by omega) hof | exact cw_n i1_3 i1_0 (by omega) | omega) hnr (by omega) (by omega)
  have h0r : ∀ a : Nat, a < 64 → 0 ≤ tA t2 35 a ∧ tA t2 35 a ≤ 16777216 := fun a ha => by rw [ht2, tA_uA]; split <;> first | decide | (rw [hfi a ha]; decide)
  exact key1 13 _ 0 t2 ok2 fr2 (by omega) (by omega) (by omega) (CW_0 h00 h01) h0r (by omega) (by omega)
set_option maxRecDepth 100000 in
set_option maxHeartbeats 4000000 in
theorem e_X8_best {d : Nat} {t : TS} {m w : Int}  (ok : OK t) (q0 : -2147483648 ≤ m) (q1 : m ≤ 2147483647) (q2 : -2147483648 ≤ w) (q3 : w ≤ 2147483647) : CI (EX FU (d + 6)) 89 [.ref 0, .int (jI m), .int (jI w)] (mk t) (fun z t' => OK t' ∧ Fr [(35, 100), (36, 100)] t t' ∧ (((¬ (1 ≤ m ∧ m ≤ 6 ∧ 0 ≤ w ∧ w ≤ 1)) ∧ z = (-1000000001)) ∨ ((1 ≤ m ∧ m ≤ 6 ∧ 0 ≤ w ∧ w ≤ 1) ∧ (BAp (LCm t m) (cCm t) (tI t 1 10).toNat m.toNat w z)))) := by
  refine CI_ent (d := d + 5) (Bk := bX8_best) (nL := 3) rfl rfl rfl (Nat.le_of_ble_eq_true rfl) ?_
  show Rn _ 1000000 0 [some (.ref 0), some (.int (jI m)), some (.int (jI w))] [] _ _
  have fr : Fr [(35, 100), (36, 100)] t t := Fr.rf _ _
  have hn0 := (ok.f fe_1_10).1
  have hn1 := (ok.f fe_1_10).2
  refine w_step rfl ?_
  refine w_iload rfl ?_
  refine w_push kc_1 ?_
  refine w_push kc_6 ?_
  refine w_callS3I rfl (c_X8_within ok (by omega) (by omega) (by omega) (by omega) (by omega) (by omega)) ?_
  rintro z1 t1 ⟨rfl, hp1_0⟩
  rcases hp1_0 with ⟨rfl, hp1_0⟩ | ⟨rfl, hp1_0⟩
  · skip
    refine w_ieq (by omega) (fun _ => ?_) (fun h => absurd (by omega) h)
    refine w_step rfl ?_
    refine w_push kc_m1000000001 ?_
    refine w_retI rfl ?_
    exact ⟨ok, fr, (by first | (exact Or.inl ⟨by omega, by first | omega | (subst_vars; rfl)⟩) | (exact Or.inr (⟨by omega, by first | exact hba | (subst_vars; exact hba)⟩)))⟩
  refine w_ieq (by omega) (fun h => absurd h (by omega)) (fun _ => ?_)
  refine w_iload rfl ?_
  refine w_push kc_0 ?_
  refine w_push kc_1 ?_
  refine w_callS3I rfl (c_X8_within ok (by omega) (by omega) (by omega) (by omega) (by omega) (by omega)) ?_
  rintro z2 t2 ⟨rfl, hp2_0⟩
  rcases hp2_0 with ⟨rfl, hp2_0⟩ | ⟨rfl, hp2_0⟩
  · skip
    refine w_ine (by omega) (fun h => absurd h (by omega)) (fun _ => ?_)
    refine w_goto ?_
    refine w_step rfl ?_
    refine w_push kc_m1000000001 ?_
    refine w_retI rfl ?_
    exact ⟨ok, fr, (by first | (exact Or.inl ⟨by omega, by first | omega | (subst_vars; rfl)⟩) | (exact Or.inr (⟨by omega, by first | exact hba | (subst_vars; exact hba)⟩)))⟩
  refine w_ine (by omega) (fun _ => ?_) (fun h => absurd (by omega) h)
  refine w_step rfl ?_
  refine w_aload rfl ?_
  refine w_getR (g_0_2 _) ?_
  refine w_aload rfl ?_
  refine w_getR (g_0_0 _) ?_
  refine w_iload rfl ?_
  refine w_iload rfl ?_
  refine w_callV3I (oj_23 _).choose_spec rfl (e_X7_bestLaying ok (by omega) (by omega) (by omega) (by omega)) ?_
  rintro z3 t3 ⟨ok3, fq3, hp3_0⟩
  have fr3 := fr.then fq3 (by simp)
  have hba := hp3_0
  refine w_retI rfl ?_
  exact ⟨ok3, fr3, (by first | (exact Or.inl ⟨by omega, by first | omega | (subst_vars; rfl)⟩) | (exact Or.inr (⟨by omega, by first | exact hba | (subst_vars; exact hba)⟩)))⟩
