set_option maxRecDepth 100000 in
set_option maxHeartbeats 4000000 in
theorem c_X9_copy {d : Nat} {t : TS} {k p h a m : Int}  (ok : OK t) (q0 : -2147483648 ≤ k) (q1 : k ≤ 2147483647) (q2 : -2147483648 ≤ p) (q3 : p ≤ 2147483647) (q4 : -2147483648 ≤ h) (q5 : h ≤ 2147483647) (q6 : -2147483648 ≤ a) (q7 : a ≤ 2147483647) (q8 : -2147483648 ≤ m) (q9 : m ≤ 2147483647) : CI (EX FU (d + 3)) 212 [.ref 68, .int (jI k), .int (jI p), .int (jI h), .int (jI a), .int (jI m)] (mk t) (fun z t' => OK t' ∧ Fr [(90, 100), (85, 100)] t t' ∧ (((¬ (0 ≤ k ∧ k ≤ 3 ∧ 0 ≤ h ∧ h ≤ 3)) ∧ z = (-1000000001) ∧ t' = t) ∨ ((0 ≤ k ∧ k ≤ 3 ∧ 0 ≤ h ∧ h ≤ 3) ∧ (tA t 83 k.toNat = -1 ∨ tA t 83 h.toNat = -1) ∧ z = (-1000000011) ∧ t' = t) ∨ ((0 ≤ k ∧ k ≤ 3 ∧ 0 ≤ h ∧ h ≤ 3) ∧ (¬ tA t 83 k.toNat = -1 ∧ ¬ tA t 83 h.toNat = -1) ∧ (¬ tA t 83 k.toNat = tA t 83 h.toNat) ∧ z = (-1000000012) ∧ t' = t) ∨ ((0 ≤ k ∧ k ≤ 3 ∧ 0 ≤ h ∧ h ≤ 3) ∧ (¬ tA t 83 k.toNat = -1 ∧ ¬ tA t 83 h.toNat = -1) ∧ (tA t 83 k.toNat = tA t 83 h.toNat) ∧ (¬ (0 ≤ p ∧ p ≤ tA t 84 k.toNat ∧ 0 ≤ m ∧ m ≤ tA t 84 k.toNat - p ∧ 0 ≤ a ∧ a ≤ tA t 84 h.toNat ∧ m ≤ tA t 84 h.toNat - a)) ∧ z = (-1000000013) ∧ t' = t) ∨ ((0 ≤ k ∧ k ≤ 3 ∧ 0 ≤ h ∧ h ≤ 3) ∧ (¬ tA t 83 k.toNat = -1 ∧ ¬ tA t 83 h.toNat = -1) ∧ (tA t 83 k.toNat = tA t 83 h.toNat) ∧ (0 ≤ p ∧ p ≤ tA t 84 k.toNat ∧ 0 ≤ m ∧ m ≤ tA t 84 k.toNat - p ∧ 0 ≤ a ∧ a ≤ tA t 84 h.toNat ∧ m ≤ tA t 84 h.toNat - a) ∧ z = m ∧ (∀ i : Nat, tA t' 85 i = if 24 * h + a ≤ (i : Int) ∧ (i : Int) < 24 * h + a + m then tA t 85 ((24 * k + p).toNat + (i - (24 * h + a).toNat)) else tA t 85 i)))) := by
  refine CI_ent (d := d + 2) (Bk := bX9_copy) (nL := 7) rfl rfl rfl (Nat.le_of_ble_eq_true rfl) ?_
  show Rn _ 1000000 0 [some (.ref 68), some (.int (jI k)), some (.int (jI p)), some (.int (jI h)), some (.int (jI a)), some (.int (jI m)), none] [] _ _
  have fr : Fr [(90, 100), (85, 100)] t t := Fr.rf _ _
  have hn0 := (ok.a (ax_69 nr_1)).1
  have hn1 := (ok.a (ax_69 nr_1)).2
  refine w_step rfl ?_
  refine w_iload rfl ?_
  refine w_callS1I rfl (c_X9_isSheet ok (by omega) (by omega)) ?_
  rintro z1 t1 ⟨rfl, hp1_0⟩
  rcases hp1_0 with ⟨rfl, hp1_0⟩ | ⟨rfl, hp1_0⟩
  · skip
    refine w_ieq (by omega) (fun _ => ?_) (fun h => absurd (by omega) h)
    refine w_step rfl ?_
    refine w_push kc_m1000000001 ?_
    refine w_retI rfl ?_
    exact ⟨ok, fr, (by (exact Or.inl ⟨by omega, by first | omega | (subst_vars; rfl), rfl⟩))⟩
  refine w_ieq (by omega) (fun h => absurd h (by omega)) (fun _ => ?_)
  refine w_iload rfl ?_
  refine w_callS1I rfl (c_X9_isSheet ok (by omega) (by omega)) ?_
  rintro z2 t2 ⟨rfl, hp2_0⟩
  rcases hp2_0 with ⟨rfl, hp2_0⟩ | ⟨rfl, hp2_0⟩
  · skip
    refine w_ine (by omega) (fun h => absurd h (by omega)) (fun _ => ?_)
    refine w_goto ?_
    refine w_step rfl ?_
    refine w_push kc_m1000000001 ?_
    refine w_retI rfl ?_
    exact ⟨ok, fr, (by (exact Or.inl ⟨by omega, by first | omega | (subst_vars; rfl), rfl⟩))⟩
  refine w_ine (by omega) (fun _ => ?_) (fun h => absurd (by omega) h)
  refine w_step rfl ?_
  refine w_aload rfl ?_
  refine w_getR (g_68_26 _) ?_
  refine w_iload rfl ?_
  refine w_iald (i := (k).toNat) (ai_83 _) (by omega) (by omega) (ae_83 _) ok (fun z3 hz3 hl3 hh3 => ?_)
  refine w_ilt (by omega) (fun h4 => ?_) (fun h4 => ?_)
  · skip
    refine w_step rfl ?_
    refine w_push kc_m1000000011 ?_
    refine w_retI rfl ?_
    exact ⟨ok, fr, (by (exact Or.inr (Or.inl ⟨by omega, by omega, by first | omega | (subst_vars; rfl), rfl⟩)))⟩
  refine w_aload rfl ?_
  refine w_getR (g_68_26 _) ?_
  refine w_iload rfl ?_
  refine w_iald (i := (h).toNat) (ai_83 _) (by omega) (by omega) (ae_83 _) ok (fun z5 hz5 hl5 hh5 => ?_)
  refine w_ige (by omega) (fun h6 => ?_) (fun h6 => ?_)
  · skip
    refine w_step rfl ?_
    refine w_aload rfl ?_
    refine w_getR (g_68_26 _) ?_
    refine w_iload rfl ?_
    refine w_iald (i := (k).toNat) (ai_83 _) (by omega) (by omega) (ae_83 _) ok (fun z7 hz7 hl7 hh7 => ?_)
    refine w_aload rfl ?_
    refine w_getR (g_68_26 _) ?_
    refine w_iload rfl ?_
    refine w_iald (i := (h).toNat) (ai_83 _) (by omega) (by omega) (ae_83 _) ok (fun z8 hz8 hl8 hh8 => ?_)
    refine w_ceq (by omega) (fun h9 => ?_) (fun h9 => ?_)
    · skip
      refine w_step rfl ?_
      refine w_iload rfl ?_
      refine w_ilt (by omega) (fun h10 => ?_) (fun h10 => ?_)
      · skip
        refine w_step rfl ?_
        refine w_push kc_m1000000013 ?_
        refine w_retI rfl ?_
        exact ⟨ok, fr, (by (exact Or.inr (Or.inr (Or.inr (Or.inl ⟨by omega, by omega, by omega, by omega, by first | omega | (subst_vars; rfl), rfl⟩)))))⟩
      refine w_iload rfl ?_
      refine w_ilt (by omega) (fun h11 => ?_) (fun h11 => ?_)
      · skip
        refine w_step rfl ?_
        refine w_push kc_m1000000013 ?_
        refine w_retI rfl ?_
        exact ⟨ok, fr, (by (exact Or.inr (Or.inr (Or.inr (Or.inl ⟨by omega, by omega, by omega, by omega, by first | omega | (subst_vars; rfl), rfl⟩)))))⟩
      refine w_iload rfl ?_
      refine w_ilt (by omega) (fun h12 => ?_) (fun h12 => ?_)
      · skip
        refine w_step rfl ?_
        refine w_push kc_m1000000013 ?_
        refine w_retI rfl ?_
        exact ⟨ok, fr, (by (exact Or.inr (Or.inr (Or.inr (Or.inl ⟨by omega, by omega, by omega, by omega, by first | omega | (subst_vars; rfl), rfl⟩)))))⟩
      refine w_iload rfl ?_
      refine w_aload rfl ?_
      refine w_getR (g_68_27 _) ?_
      refine w_iload rfl ?_
      refine w_iald (i := (k).toNat) (ai_84 _) (by omega) (by omega) (ae_84 _) ok (fun z13 hz13 hl13 hh13 => ?_)
      refine w_iload rfl ?_
      refine w_sub ?_
      refine w_cgt (by omega) (fun h14 => ?_) (fun h14 => ?_)
      · skip
        refine w_step rfl ?_
        refine w_push kc_m1000000013 ?_
        refine w_retI rfl ?_
        exact ⟨ok, fr, (by (exact Or.inr (Or.inr (Or.inr (Or.inl ⟨by omega, by omega, by omega, by omega, by first | omega | (subst_vars; rfl), rfl⟩)))))⟩
      refine w_iload rfl ?_
      refine w_aload rfl ?_
      refine w_getR (g_68_27 _) ?_
      refine w_iload rfl ?_
      refine w_iald (i := (h).toNat) (ai_84 _) (by omega) (by omega) (ae_84 _) ok (fun z15 hz15 hl15 hh15 => ?_)
      refine w_iload rfl ?_
      refine w_sub ?_
      refine w_cle (by omega) (fun h16 => ?_) (fun h16 => ?_)
      · skip
        refine w_step rfl ?_
        refine w_push kc_0 ?_
        refine w_istore (lv' := [some (.ref 68), some (.int (jI k)), some (.int (jI p)), some (.int (jI h)), some (.int (jI a)), some (.int (jI m)), some (.int (jI 0))]) rfl ?_
        refine w_goto ?_
        have key8 : ∀ (n8 M8 : Nat) (q : Int) (t17 : TS), OK t17 → Fr [(90, 100), (85, 100)] t t17 → (0 ≤ q) → (q ≤ m) → (∀ j : Nat, (j : Int) < q → tA t17 90 j = tA t 85 ((24 * k + p).toNat + j)) → (∀ i, tA t17 85 i = tA t 85 i) → 24 - q < (n8 : Int) → 60 * n8 + (20000) ≤ M8 → Rn (bX9_copy (EX FU (d + 2))) M8 8 [some (.ref 68), some (.int (jI k)), some (.int (jI p)), some (.int (jI h)), some (.int (jI a)), some (.int (jI m)), some (.int (jI q))] [] (mk t17) (PI (fun z t' => OK t' ∧ Fr [(90, 100), (85, 100)] t t' ∧ (((¬ (0 ≤ k ∧ k ≤ 3 ∧ 0 ≤ h ∧ h ≤ 3)) ∧ z = (-1000000001) ∧ t' = t) ∨ ((0 ≤ k ∧ k ≤ 3 ∧ 0 ≤ h ∧ h ≤ 3) ∧ (tA t 83 k.toNat = -1 ∨ tA t 83 h.toNat = -1) ∧ z = (-1000000011) ∧ t' = t) ∨ ((0 ≤ k ∧ k ≤ 3 ∧ 0 ≤ h ∧ h ≤ 3) ∧ (¬ tA t 83 k.toNat = -1 ∧ ¬ tA t 83 h.toNat = -1) ∧ (¬ tA t 83 k.toNat = tA t 83 h.toNat) ∧ z = (-1000000012) ∧ t' = t) ∨ ((0 ≤ k ∧ k ≤ 3 ∧ 0 ≤ h ∧ h ≤ 3) ∧ (¬ tA t 83 k.toNat = -1 ∧ ¬ tA t 83 h.toNat = -1) ∧ (tA t 83 k.toNat = tA t 83 h.toNat) ∧ (¬ (0 ≤ p ∧ p ≤ tA t 84 k.toNat ∧ 0 ≤ m ∧ m ≤ tA t 84 k.toNat - p ∧ 0 ≤ a ∧ a ≤ tA t 84 h.toNat ∧ m ≤ tA t 84 h.toNat - a)) ∧ z = (-1000000013) ∧ t' = t) ∨ ((0 ≤ k ∧ k ≤ 3 ∧ 0 ≤ h ∧ h ≤ 3) ∧ (¬ tA t 83 k.toNat = -1 ∧ ¬ tA t 83 h.toNat = -1) ∧ (tA t 83 k.toNat = tA t 83 h.toNat) ∧ (0 ≤ p ∧ p ≤ tA t 84 k.toNat ∧ 0 ≤ m ∧ m ≤ tA t 84 k.toNat - p ∧ 0 ≤ a ∧ a ≤ tA t 84 h.toNat ∧ m ≤ tA t 84 h.toNat - a) ∧ z = m ∧ (∀ i : Nat, tA t' 85 i = if 24 * h + a ≤ (i : Int) ∧ (i : Int) < 24 * h + a + m then tA t 85 ((24 * k + p).toNat + (i - (24 * h + a).toNat)) else tA t 85 i))))) := by
          intro n8
          induction n8 with
          | zero => intro M8 q t17 ok17 fr17 i8_0 i8_1 i8_2 i8_3 v8 f8; exfalso; omega
          | succ n8 ih8 =>
            intro M8 q t17 ok17 fr17 i8_0 i8_1 i8_2 i8_3 v8 f8
            obtain ⟨M8, rfl⟩ : ∃ m, M8 = m + 60 := ⟨M8 - 60, by omega⟩
            refine w_step rfl ?_
            refine w_iload rfl ?_
            refine w_iload rfl ?_
            refine w_cge (by omega) (fun h18 => ?_) (fun h18 => ?_)
            · skip
              refine w_step rfl ?_
              refine w_push kc_0 ?_
              refine w_istore (lv' := [some (.ref 68), some (.int (jI k)), some (.int (jI p)), some (.int (jI h)), some (.int (jI a)), some (.int (jI m)), some (.int (jI 0))]) rfl ?_
              refine w_goto ?_
              have key10 : ∀ (n10 M10 : Nat) (q : Int) (t19 : TS), OK t19 → Fr [(90, 100), (85, 100)] t t19 → (0 ≤ q) → (q ≤ m) → (∀ i : Nat, tA t19 85 i = if 24 * h + a ≤ (i : Int) ∧ (i : Int) < 24 * h + a + q then (fun j => tA t 85 ((24 * k + p).toNat + j)) (i - (24 * h + a).toNat) else tA t 85 i) → (∀ j : Nat, (j : Int) < m → tA t19 90 j = tA t 85 ((24 * k + p).toNat + j)) → 24 - q < (n10 : Int) → 60 * n10 + (1000) ≤ M10 → Rn (bX9_copy (EX FU (d + 2))) M10 10 [some (.ref 68), some (.int (jI k)), some (.int (jI p)), some (.int (jI h)), some (.int (jI a)), some (.int (jI m)), some (.int (jI q))] [] (mk t19) (PI (fun z t' => OK t' ∧ Fr [(90, 100), (85, 100)] t t' ∧ (((¬ (0 ≤ k ∧ k ≤ 3 ∧ 0 ≤ h ∧ h ≤ 3)) ∧ z = (-1000000001) ∧ t' = t) ∨ ((0 ≤ k ∧ k ≤ 3 ∧ 0 ≤ h ∧ h ≤ 3) ∧ (tA t 83 k.toNat = -1 ∨ tA t 83 h.toNat = -1) ∧ z = (-1000000011) ∧ t' = t) ∨ ((0 ≤ k ∧ k ≤ 3 ∧ 0 ≤ h ∧ h ≤ 3) ∧ (¬ tA t 83 k.toNat = -1 ∧ ¬ tA t 83 h.toNat = -1) ∧ (¬ tA t 83 k.toNat = tA t 83 h.toNat) ∧ z = (-1000000012) ∧ t' = t) ∨ ((0 ≤ k ∧ k ≤ 3 ∧ 0 ≤ h ∧ h ≤ 3) ∧ (¬ tA t 83 k.toNat = -1 ∧ ¬ tA t 83 h.toNat = -1) ∧ (tA t 83 k.toNat = tA t 83 h.toNat) ∧ (¬ (0 ≤ p ∧ p ≤ tA t 84 k.toNat ∧ 0 ≤ m ∧ m ≤ tA t 84 k.toNat - p ∧ 0 ≤ a ∧ a ≤ tA t 84 h.toNat ∧ m ≤ tA t 84 h.toNat - a)) ∧ z = (-1000000013) ∧ t' = t) ∨ ((0 ≤ k ∧ k ≤ 3 ∧ 0 ≤ h ∧ h ≤ 3) ∧ (¬ tA t 83 k.toNat = -1 ∧ ¬ tA t 83 h.toNat = -1) ∧ (tA t 83 k.toNat = tA t 83 h.toNat) ∧ (0 ≤ p ∧ p ≤ tA t 84 k.toNat ∧ 0 ≤ m ∧ m ≤ tA t 84 k.toNat - p ∧ 0 ≤ a ∧ a ≤ tA t 84 h.toNat ∧ m ≤ tA t 84 h.toNat - a) ∧ z = m ∧ (∀ i : Nat, tA t' 85 i = if 24 * h + a ≤ (i : Int) ∧ (i : Int) < 24 * h + a + m then tA t 85 ((24 * k + p).toNat + (i - (24 * h + a).toNat)) else tA t 85 i))))) := by
                intro n10
                induction n10 with
                | zero => intro M10 q t19 ok19 fr19 i10_0 i10_1 i10_2 i10_3 v10 f10; exfalso; omega
                | succ n10 ih10 =>
                  intro M10 q t19 ok19 fr19 i10_0 i10_1 i10_2 i10_3 v10 f10
                  obtain ⟨M10, rfl⟩ : ∃ m, M10 = m + 60 := ⟨M10 - 60, by omega⟩
                  refine w_step rfl ?_
                  refine w_iload rfl ?_
                  refine w_iload rfl ?_
                  refine w_cge (by omega) (fun h20 => ?_) (fun h20 => ?_)
                  · skip
                    refine w_step rfl ?_
                    refine w_iload rfl ?_
                    refine w_retI rfl ?_
                    exact ⟨ok19, fr19, (by (exact Or.inr (Or.inr (Or.inr (Or.inr (⟨by omega, by omega, by omega, by omega, by first | omega | (subst_vars; rfl), by have e : q = m := (by omega); rw [← e]; exact i10_2⟩))))))⟩
                  refine w_aload rfl ?_
                  refine w_getR (g_68_28 _) ?_
                  refine w_push kc_24 ?_
                  refine w_iload rfl ?_
                  refine w_mul ?_
                  refine w_iload rfl ?_
                  refine w_add ?_
                  refine w_iload rfl ?_
                  refine w_add ?_
                  refine w_aload rfl ?_
                  refine w_getR (g_68_33 _) ?_
                  refine w_iload rfl ?_
                  refine w_iald (i := (q).toNat) (ai_90 _) (by omega) (by omega) (ae_90 _) ok19 (fun z21 hz21 hl21 hh21 => ?_)
                  have ev : z21 = tA t 85 ((24 * k + p).toNat + q.toNat) := by
                    rw [hz21]
                    exact i10_3 q.toNat (by omega)
                  refine w_iast (i := ((((24 * h) + a) + q)).toNat) (ai_85 _) rfl (by omega) (by omega) (ae_85 _) ok19 (by omega) (fun t22 ht22 ok22 => ?_)
                  have fr22 := fr19.uA ht22 (by simp)
                  have w2 := ht22
                  refine w_iinc (lv' := [some (.ref 68), some (.int (jI k)), some (.int (jI p)), some (.int (jI h)), some (.int (jI a)), some (.int (jI m)), some (.int (jI (q + 1)))]) kc_1 rfl rfl ?_
                  refine w_goto ?_
                  exact ih10 _ (q + 1) t22 ok22 fr22 (by omega) (by omega) (deal_step (F := (fun j => tA t 85 ((24 * k + p).toNat + j))) (n := 24 * h + a) (i := q) (by omega) i10_0 rfl i10_2 (by intro i; rw [w2, tA_uA]; simp) ev) (by intro j hj; rw [w2, tA_uA, if_neg (by omega)]; exact i10_3 j hj) (by omega) (by omega)
              exact key10 25 _ 0 t17 ok17 fr17 (by omega) (by omega) (by intro i; rw [if_neg (by omega)]; exact i8_3 i) (by intro j hj; exact i8_2 j (by omega)) (by omega) (by omega)
            refine w_aload rfl ?_
            refine w_getR (g_68_33 _) ?_
            refine w_iload rfl ?_
            refine w_aload rfl ?_
            refine w_getR (g_68_28 _) ?_
            refine w_push kc_24 ?_
            refine w_iload rfl ?_
            refine w_mul ?_
            refine w_iload rfl ?_
            refine w_add ?_
            refine w_iload rfl ?_
            refine w_add ?_
            refine w_iald (i := ((((24 * k) + p) + q)).toNat) (ai_85 _) (by omega) (by omega) (ae_85 _) ok17 (fun z23 hz23 hl23 hh23 => ?_)
            have ev : z23 = tA t 85 ((24 * k + p).toNat + q.toNat) := by
              rw [hz23, i8_3]
              congr 1
              omega
            refine w_iast (i := (q).toNat) (ai_90 _) rfl (by omega) (by omega) (ae_90 _) ok17 (by omega) (fun t24 ht24 ok24 => ?_)
            have fr24 := fr17.uA ht24 (by simp)
            have w1 := ht24
            refine w_iinc (lv' := [some (.ref 68), some (.int (jI k)), some (.int (jI p)), some (.int (jI h)), some (.int (jI a)), some (.int (jI m)), some (.int (jI (q + 1)))]) kc_1 rfl rfl ?_
            refine w_goto ?_
            exact ih8 _ (q + 1) t24 ok24 fr24 (by omega) (by omega) (by intro j hj; rw [w1, tA_uA]; split <;> first | exact i8_2 j (by omega) | (rename_i e; rw [e.2]; exact ev)) (by intro i; rw [w1, tA_uA, if_neg (by omega)]; exact i8_3 i) (by omega) (by omega)
        exact key8 25 _ 0 t ok fr (by omega) (by omega) (by intro j hj; omega) (fun _ => rfl) (by omega) (by omega)
      refine w_goto ?_
      refine w_step rfl ?_
      refine w_push kc_m1000000013 ?_
      refine w_retI rfl ?_
      exact ⟨ok, fr, (by (exact Or.inr (Or.inr (Or.inr (Or.inl ⟨by omega, by omega, by omega, by omega, by first | omega | (subst_vars; rfl), rfl⟩)))))⟩
    refine w_push kc_m1000000012 ?_
    refine w_retI rfl ?_
    exact ⟨ok, fr, (by (exact Or.inr (Or.inr (Or.inl ⟨by omega, by omega, by omega, by first | omega | (subst_vars; rfl), rfl⟩))))⟩
  refine w_goto ?_
  refine w_step rfl ?_
  refine w_push kc_m1000000011 ?_
  refine w_retI rfl ?_
  exact ⟨ok, fr, (by (exact Or.inr (Or.inl ⟨by omega, by omega, by first | omega | (subst_vars; rfl), rfl⟩)))⟩
set_option maxRecDepth 100000 in
set_option maxHeartbeats 4000000 in
theorem c_X9_lay {d : Nat} {t : TS} {s g k : Int}  (ok : OK t) (q0 : -2147483648 ≤ s) (q1 : s ≤ 2147483647) (q2 : -2147483648 ≤ g) (q3 : g ≤ 2147483647) (q4 : -2147483648 ≤ k) (q5 : k ≤ 2147483647) : CI (EX FU (d + 3)) 213 [.ref 68, .int (jI s), .int (jI g), .int (jI k)] (mk t) (fun z t' => OK t' ∧ Fr [(86, 100), (87, 100), (88, 100), (89, 100)] t t' ∧ (((¬ (0 ≤ s ∧ s ≤ 4 ∧ 0 ≤ g ∧ g ≤ 3) ∨ (g = 1 ∧ ¬ (0 ≤ k ∧ k ≤ tA t 69 1 - 1)) ∨ (g = 2 ∧ ¬ (0 ≤ k ∧ k ≤ 3))) ∧ z = (-1000000001) ∧ t' = t) ∨ ((0 ≤ s ∧ s ≤ 4) ∧ (g = 2) ∧ (0 ≤ k ∧ k ≤ 3) ∧ (tA t 83 k.toNat = -1) ∧ z = (-1000000011) ∧ t' = t) ∨ ((0 ≤ s ∧ s ≤ 4) ∧ (g = 0 ∨ g = 3) ∧ z = tA t 86 s.toNat ∧ (∀ i, tA t' 86 i = if i = s.toNat then g else tA t 86 i) ∧ (∀ i, tA t' 87 i = if i = s.toNat then k else tA t 87 i) ∧ (∀ i, ¬ i = s.toNat → tA t' 88 i = tA t 88 i) ∧ (∀ i, tA t' 89 i = tA t 89 i)) ∨ ((0 ≤ s ∧ s ≤ 4) ∧ (g = 1) ∧ (0 ≤ k ∧ k ≤ tA t 69 1 - 1) ∧ z = tA t 86 s.toNat ∧ (∀ i, tA t' 86 i = if i = s.toNat then g else tA t 86 i) ∧ (∀ i, tA t' 87 i = if i = s.toNat then (tA t 69 (29 + 5 * k + 0).toNat) else tA t 87 i) ∧ (∀ i, tA t' 88 i = if i = s.toNat then (woF (tA t 69 (29 + 5 * k + 0).toNat) (tA t 69 (29 + 5 * k + 1).toNat) (tA t 69 (29 + 5 * k + 2).toNat)) else tA t 88 i) ∧ (∀ i, tA t' 89 i = tA t 89 i)) ∨ ((0 ≤ s ∧ s ≤ 4) ∧ (g = 2) ∧ (0 ≤ k ∧ k ≤ 3) ∧ (¬ tA t 83 k.toNat = -1) ∧ z = tA t 86 s.toNat ∧ (∀ i, tA t' 86 i = if i = s.toNat then g else tA t 86 i) ∧ (∀ i, tA t' 87 i = if i = s.toNat then tA t 84 k.toNat else tA t 87 i) ∧ (∀ i, ¬ i = s.toNat → tA t' 88 i = tA t 88 i) ∧ (∀ i : Nat, tA t' 89 i = if 24 * s ≤ (i : Int) ∧ (i : Int) < 24 * s + 24 then tA t 85 (24 * k.toNat + (i - (24 * s).toNat)) else tA t 89 i)))) := by
  refine CI_ent (d := d + 2) (Bk := bX9_lay) (nL := 6) rfl rfl rfl (Nat.le_of_ble_eq_true rfl) ?_
  show Rn _ 1000000 0 [some (.ref 68), some (.int (jI s)), some (.int (jI g)), some (.int (jI k)), none, none] [] _ _
  have fr : Fr [(86, 100), (87, 100), (88, 100), (89, 100)] t t := Fr.rf _ _
  have hn0 := (ok.a (ax_69 nr_1)).1
  have hn1 := (ok.a (ax_69 nr_1)).2
  refine w_step rfl ?_
  refine w_iload rfl ?_
  refine w_callS1I rfl (c_X9_isSlot ok (by omega) (by omega)) ?_
  rintro z1 t1 ⟨rfl, hp1_0⟩
  rcases hp1_0 with ⟨rfl, hp1_0⟩ | ⟨rfl, hp1_0⟩
  · skip
    refine w_ieq (by omega) (fun _ => ?_) (fun h => absurd (by omega) h)
    refine w_step rfl ?_
    refine w_push kc_m1000000001 ?_
    refine w_retI rfl ?_
    exact ⟨ok, fr, (by (exact Or.inl ⟨by omega, by first | omega | (subst_vars; rfl), rfl⟩))⟩
  refine w_ieq (by omega) (fun h => absurd h (by omega)) (fun _ => ?_)
  refine w_iload rfl ?_
  refine w_push kc_0 ?_
  refine w_push kc_3 ?_
  refine w_callS3I rfl (c_X9_in ok (by omega) (by omega) (by omega) (by omega) (by omega) (by omega)) ?_
  rintro z2 t2 ⟨rfl, hp2_0⟩
  rcases hp2_0 with ⟨rfl, hp2_0⟩ | ⟨rfl, hp2_0⟩
  · skip
    refine w_ieq (by omega) (fun _ => ?_) (fun h => absurd (by omega) h)
    refine w_step rfl ?_
    refine w_push kc_m1000000001 ?_
    refine w_retI rfl ?_
    exact ⟨ok, fr, (by (exact Or.inl ⟨by omega, by first | omega | (subst_vars; rfl), rfl⟩))⟩
  refine w_ieq (by omega) (fun h => absurd h (by omega)) (fun _ => ?_)
  refine w_iload rfl ?_
  refine w_push kc_1 ?_
  refine w_cne (by omega) (fun h3 => ?_) (fun h3 => ?_)
  · skip
    refine w_step rfl ?_
    refine w_iload rfl ?_
    refine w_push kc_2 ?_
    refine w_cne (by omega) (fun h4 => ?_) (fun h4 => ?_)
    · skip
      refine w_step rfl ?_
      refine w_iload rfl ?_
      refine w_push kc_2 ?_
      refine w_cne (by omega) (fun _ => ?_) (fun h => absurd (by omega) h)
      refine w_step rfl ?_
      refine w_aload rfl ?_
      refine w_getR (g_68_29 _) ?_
      refine w_iload rfl ?_
      refine w_iald (i := (s).toNat) (ai_86 _) (by omega) (by omega) (ae_86 _) ok (fun z5 hz5 hl5 hh5 => ?_)
      have ez := hz5
      refine w_istore (lv' := [some (.ref 68), some (.int (jI s)), some (.int (jI g)), some (.int (jI k)), some (.int (jI z5)), none]) rfl ?_
      refine w_aload rfl ?_
      refine w_getR (g_68_29 _) ?_
      refine w_iload rfl ?_
      refine w_iload rfl ?_
      refine w_iast (i := (s).toNat) (ai_86 _) rfl (by omega) (by omega) (ae_86 _) ok (by omega) (fun t6 ht6 ok6 => ?_)
      have fr6 := fr.uA ht6 (by simp)
      have w1 := ht6
      have u1 : ∀ c i, ¬ c = 86 → tA t6 c i = tA t c i := fun c i hc => by rw [w1, tA_uA, if_neg (fun q => hc q.1)]
      refine w_aload rfl ?_
      refine w_getR (g_68_30 _) ?_
      refine w_iload rfl ?_
      refine w_iload rfl ?_
      refine w_push kc_1 ?_
      refine w_cne (by omega) (fun _ => ?_) (fun h => absurd (by omega) h)
      refine w_step rfl ?_
      refine w_iload rfl ?_
      refine w_push kc_2 ?_
      refine w_cne (by omega) (fun _ => ?_) (fun h => absurd (by omega) h)
      refine w_step rfl ?_
      refine w_iload rfl ?_
      refine w_goto ?_
      refine w_step rfl ?_
      refine w_iast (i := (s).toNat) (ai_87 _) rfl (by omega) (by omega) (ae_87 _) ok6 (by omega) (fun t7 ht7 ok7 => ?_)
      have fr7 := fr6.uA ht7 (by simp)
      have w2 := ht7
      have u2 : ∀ c i, ¬ c = 86 → ¬ c = 87 → tA t7 c i = tA t c i := fun c i hc hd => by rw [w2, tA_uA, if_neg (fun q => hd q.1)]; exact u1 c i hc
      refine w_aload rfl ?_
      refine w_getR (g_68_31 _) ?_
      refine w_iload rfl ?_
      refine w_iload rfl ?_
      refine w_push kc_1 ?_
      refine w_cne (by omega) (fun _ => ?_) (fun h => absurd (by omega) h)
      refine w_step rfl ?_
      refine w_push kc_0 ?_
      refine w_goto ?_
      refine w_step rfl ?_
      refine w_iast (i := (s).toNat) (ai_88 _) rfl (by omega) (by omega) (ae_88 _) ok7 (by omega) (fun t8 ht8 ok8 => ?_)
      have fr8 := fr7.uA ht8 (by simp)
      have w3 := ht8
      have u3 : ∀ c i, ¬ c = 86 → ¬ c = 87 → ¬ c = 88 → tA t8 c i = tA t c i := fun c i hc hd he => by rw [w3, tA_uA, if_neg (fun q => he q.1)]; exact u2 c i hc hd
      refine w_push kc_0 ?_
      refine w_istore (lv' := [some (.ref 68), some (.int (jI s)), some (.int (jI g)), some (.int (jI k)), some (.int (jI z5)), some (.int (jI 0))]) rfl ?_
      refine w_goto ?_
      have key10 : ∀ (n10 M10 : Nat) (m : Int) (t9 : TS), OK t9 → Fr [(86, 100), (87, 100), (88, 100), (89, 100)] t t9 → (0 ≤ m) → (m ≤ 24) → (∀ c i, ¬ c = 89 → tA t9 c i = tA t8 c i) → (∀ i : Nat, tA t9 89 i = if 24 * s ≤ (i : Int) ∧ (i : Int) < 24 * s + m then (fun j => tA t 85 (24 * k.toNat + j)) (i - (24 * s).toNat) else tA t 89 i) → (g = 2 ∨ m = 0) → 24 - m < (n10 : Int) → 60 * n10 + (1000) ≤ M10 → Rn (bX9_lay (EX FU (d + 2))) M10 10 [some (.ref 68), some (.int (jI s)), some (.int (jI g)), some (.int (jI k)), some (.int (jI z5)), some (.int (jI m))] [] (mk t9) (PI (fun z t' => OK t' ∧ Fr [(86, 100), (87, 100), (88, 100), (89, 100)] t t' ∧ (((¬ (0 ≤ s ∧ s ≤ 4 ∧ 0 ≤ g ∧ g ≤ 3) ∨ (g = 1 ∧ ¬ (0 ≤ k ∧ k ≤ tA t 69 1 - 1)) ∨ (g = 2 ∧ ¬ (0 ≤ k ∧ k ≤ 3))) ∧ z = (-1000000001) ∧ t' = t) ∨ ((0 ≤ s ∧ s ≤ 4) ∧ (g = 2) ∧ (0 ≤ k ∧ k ≤ 3) ∧ (tA t 83 k.toNat = -1) ∧ z = (-1000000011) ∧ t' = t) ∨ ((0 ≤ s ∧ s ≤ 4) ∧ (g = 0 ∨ g = 3) ∧ z = tA t 86 s.toNat ∧ (∀ i, tA t' 86 i = if i = s.toNat then g else tA t 86 i) ∧ (∀ i, tA t' 87 i = if i = s.toNat then k else tA t 87 i) ∧ (∀ i, ¬ i = s.toNat → tA t' 88 i = tA t 88 i) ∧ (∀ i, tA t' 89 i = tA t 89 i)) ∨ ((0 ≤ s ∧ s ≤ 4) ∧ (g = 1) ∧ (0 ≤ k ∧ k ≤ tA t 69 1 - 1) ∧ z = tA t 86 s.toNat ∧ (∀ i, tA t' 86 i = if i = s.toNat then g else tA t 86 i) ∧ (∀ i, tA t' 87 i = if i = s.toNat then (tA t 69 (29 + 5 * k + 0).toNat) else tA t 87 i) ∧ (∀ i, tA t' 88 i = if i = s.toNat then (woF (tA t 69 (29 + 5 * k + 0).toNat) (tA t 69 (29 + 5 * k + 1).toNat) (tA t 69 (29 + 5 * k + 2).toNat)) else tA t 88 i) ∧ (∀ i, tA t' 89 i = tA t 89 i)) ∨ ((0 ≤ s ∧ s ≤ 4) ∧ (g = 2) ∧ (0 ≤ k ∧ k ≤ 3) ∧ (¬ tA t 83 k.toNat = -1) ∧ z = tA t 86 s.toNat ∧ (∀ i, tA t' 86 i = if i = s.toNat then g else tA t 86 i) ∧ (∀ i, tA t' 87 i = if i = s.toNat then tA t 84 k.toNat else tA t 87 i) ∧ (∀ i, ¬ i = s.toNat → tA t' 88 i = tA t 88 i) ∧ (∀ i : Nat, tA t' 89 i = if 24 * s ≤ (i : Int) ∧ (i : Int) < 24 * s + 24 then tA t 85 (24 * k.toNat + (i - (24 * s).toNat)) else tA t 89 i))))) := by
        intro n10
        induction n10 with
        | zero => intro M10 m t9 ok9 fr9 i10_0 i10_1 i10_2 i10_3 i10_4 v10 f10; exfalso; omega
        | succ n10 ih10 =>
          intro M10 m t9 ok9 fr9 i10_0 i10_1 i10_2 i10_3 i10_4 v10 f10
          obtain ⟨M10, rfl⟩ : ∃ m, M10 = m + 60 := ⟨M10 - 60, by omega⟩
          refine w_step rfl ?_
          refine w_iload rfl ?_
          refine w_push kc_24 ?_
          refine w_cge (by omega) (fun h10 => ?_) (fun h10 => ?_)
          · skip
            refine w_step rfl ?_
            refine w_iload rfl ?_
            refine w_retI rfl ?_
            exact ⟨ok9, fr9, (by (exact Or.inr (Or.inr (Or.inl ⟨by omega, by omega, by first | omega | (subst_vars; rfl), by intro i; rw [i10_2 86 i (by decide), w3, tA_uA, if_neg (by omega), w2, tA_uA, if_neg (by omega), w1, tA_uA]; simp, by intro i; rw [i10_2 87 i (by decide), w3, tA_uA, if_neg (by omega), w2, tA_uA, u1 87 i (by decide)]; simp, by intro i hi; rw [i10_2 88 i (by decide), w3, tA_uA, if_neg (fun q => hi q.2), u2 88 i (by decide) (by decide)], by intro i; rw [i10_3 i, if_neg (by omega)]⟩))))⟩
          refine w_iload rfl ?_
          refine w_push kc_2 ?_
          refine w_cne (by omega) (fun _ => ?_) (fun h => absurd (by omega) h)
          refine w_step rfl ?_
          refine w_iload rfl ?_
          refine w_retI rfl ?_
          exact ⟨ok9, fr9, (by (exact Or.inr (Or.inr (Or.inl ⟨by omega, by omega, by first | omega | (subst_vars; rfl), by intro i; rw [i10_2 86 i (by decide), w3, tA_uA, if_neg (by omega), w2, tA_uA, if_neg (by omega), w1, tA_uA]; simp, by intro i; rw [i10_2 87 i (by decide), w3, tA_uA, if_neg (by omega), w2, tA_uA, u1 87 i (by decide)]; simp, by intro i hi; rw [i10_2 88 i (by decide), w3, tA_uA, if_neg (fun q => hi q.2), u2 88 i (by decide) (by decide)], by intro i; rw [i10_3 i, if_neg (by omega)]⟩))))⟩
      exact key10 25 _ 0 t8 ok8 fr8 (by omega) (by omega) (fun _ _ _ => rfl) (by intro i; rw [if_neg (by omega)]; exact u3 89 i (by decide) (by decide) (by decide)) (by omega) (by omega) (by omega)
    refine w_iload rfl ?_
    refine w_callS1I rfl (c_X9_isSheet ok (by omega) (by omega)) ?_
    rintro z11 t11 ⟨rfl, hp11_0⟩
    rcases hp11_0 with ⟨rfl, hp11_0⟩ | ⟨rfl, hp11_0⟩
    · skip
      refine w_ine (by omega) (fun h => absurd h (by omega)) (fun _ => ?_)
      refine w_goto ?_
      refine w_step rfl ?_
      refine w_push kc_m1000000001 ?_
      refine w_retI rfl ?_
      exact ⟨ok, fr, (by (exact Or.inl ⟨by omega, by first | omega | (subst_vars; rfl), rfl⟩))⟩
    refine w_ine (by omega) (fun _ => ?_) (fun h => absurd (by omega) h)
    refine w_step rfl ?_
    refine w_iload rfl ?_
    refine w_push kc_2 ?_
    refine w_cne (by omega) (fun h => absurd h (by omega)) (fun _ => ?_)
    refine w_aload rfl ?_
    refine w_getR (g_68_26 _) ?_
    refine w_iload rfl ?_
    refine w_iald (i := (k).toNat) (ai_83 _) (by omega) (by omega) (ae_83 _) ok (fun z12 hz12 hl12 hh12 => ?_)
    refine w_ige (by omega) (fun h13 => ?_) (fun h13 => ?_)
    · skip
      refine w_step rfl ?_
      refine w_aload rfl ?_
      refine w_getR (g_68_29 _) ?_
      refine w_iload rfl ?_
      refine w_iald (i := (s).toNat) (ai_86 _) (by omega) (by omega) (ae_86 _) ok (fun z14 hz14 hl14 hh14 => ?_)
      have ez := hz14
      refine w_istore (lv' := [some (.ref 68), some (.int (jI s)), some (.int (jI g)), some (.int (jI k)), some (.int (jI z14)), none]) rfl ?_
      refine w_aload rfl ?_
      refine w_getR (g_68_29 _) ?_
      refine w_iload rfl ?_
      refine w_iload rfl ?_
      refine w_iast (i := (s).toNat) (ai_86 _) rfl (by omega) (by omega) (ae_86 _) ok (by omega) (fun t15 ht15 ok15 => ?_)
      have fr15 := fr.uA ht15 (by simp)
      have w1 := ht15
      have u1 : ∀ c i, ¬ c = 86 → tA t15 c i = tA t c i := fun c i hc => by rw [w1, tA_uA, if_neg (fun q => hc q.1)]
      refine w_aload rfl ?_
      refine w_getR (g_68_30 _) ?_
      refine w_iload rfl ?_
      refine w_iload rfl ?_
      refine w_push kc_1 ?_
      refine w_cne (by omega) (fun _ => ?_) (fun h => absurd (by omega) h)
      refine w_step rfl ?_
      refine w_iload rfl ?_
      refine w_push kc_2 ?_
      refine w_cne (by omega) (fun h => absurd h (by omega)) (fun _ => ?_)
      refine w_aload rfl ?_
      refine w_getR (g_68_27 _) ?_
      refine w_iload rfl ?_
      refine w_iald (i := (k).toNat) (ai_84 _) (by omega) (by omega) (ae_84 _) ok15 (fun z16 hz16 hl16 hh16 => ?_)
      have ek : z16 = tA t 84 k.toNat := by rw [hz16, u1 84 _ (by decide)]
      refine w_goto ?_
      refine w_step rfl ?_
      refine w_iast (i := (s).toNat) (ai_87 _) rfl (by omega) (by omega) (ae_87 _) ok15 (by omega) (fun t17 ht17 ok17 => ?_)
      have fr17 := fr15.uA ht17 (by simp)
      have w2 := ht17
      have u2 : ∀ c i, ¬ c = 86 → ¬ c = 87 → tA t17 c i = tA t c i := fun c i hc hd => by rw [w2, tA_uA, if_neg (fun q => hd q.1)]; exact u1 c i hc
      refine w_aload rfl ?_
      refine w_getR (g_68_31 _) ?_
      refine w_iload rfl ?_
      refine w_iload rfl ?_
      refine w_push kc_1 ?_
      refine w_cne (by omega) (fun _ => ?_) (fun h => absurd (by omega) h)
      refine w_step rfl ?_
      refine w_push kc_0 ?_
      refine w_goto ?_
      refine w_step rfl ?_
      refine w_iast (i := (s).toNat) (ai_88 _) rfl (by omega) (by omega) (ae_88 _) ok17 (by omega) (fun t18 ht18 ok18 => ?_)
      have fr18 := fr17.uA ht18 (by simp)
      have w3 := ht18
      have u3 : ∀ c i, ¬ c = 86 → ¬ c = 87 → ¬ c = 88 → tA t18 c i = tA t c i := fun c i hc hd he => by rw [w3, tA_uA, if_neg (fun q => he q.1)]; exact u2 c i hc hd
      refine w_push kc_0 ?_
      refine w_istore (lv' := [some (.ref 68), some (.int (jI s)), some (.int (jI g)), some (.int (jI k)), some (.int (jI z14)), some (.int (jI 0))]) rfl ?_
      refine w_goto ?_
      have key10 : ∀ (n10 M10 : Nat) (m : Int) (t19 : TS), OK t19 → Fr [(86, 100), (87, 100), (88, 100), (89, 100)] t t19 → (0 ≤ m) → (m ≤ 24) → (∀ c i, ¬ c = 89 → tA t19 c i = tA t18 c i) → (∀ i : Nat, tA t19 89 i = if 24 * s ≤ (i : Int) ∧ (i : Int) < 24 * s + m then (fun j => tA t 85 (24 * k.toNat + j)) (i - (24 * s).toNat) else tA t 89 i) → (g = 2 ∨ m = 0) → 24 - m < (n10 : Int) → 60 * n10 + (1000) ≤ M10 → Rn (bX9_lay (EX FU (d + 2))) M10 10 [some (.ref 68), some (.int (jI s)), some (.int (jI g)), some (.int (jI k)), some (.int (jI z14)), some (.int (jI m))] [] (mk t19) (PI (fun z t' => OK t' ∧ Fr [(86, 100), (87, 100), (88, 100), (89, 100)] t t' ∧ (((¬ (0 ≤ s ∧ s ≤ 4 ∧ 0 ≤ g ∧ g ≤ 3) ∨ (g = 1 ∧ ¬ (0 ≤ k ∧ k ≤ tA t 69 1 - 1)) ∨ (g = 2 ∧ ¬ (0 ≤ k ∧ k ≤ 3))) ∧ z = (-1000000001) ∧ t' = t) ∨ ((0 ≤ s ∧ s ≤ 4) ∧ (g = 2) ∧ (0 ≤ k ∧ k ≤ 3) ∧ (tA t 83 k.toNat = -1) ∧ z = (-1000000011) ∧ t' = t) ∨ ((0 ≤ s ∧ s ≤ 4) ∧ (g = 0 ∨ g = 3) ∧ z = tA t 86 s.toNat ∧ (∀ i, tA t' 86 i = if i = s.toNat then g else tA t 86 i) ∧ (∀ i, tA t' 87 i = if i = s.toNat then k else tA t 87 i) ∧ (∀ i, ¬ i = s.toNat → tA t' 88 i = tA t 88 i) ∧ (∀ i, tA t' 89 i = tA t 89 i)) ∨ ((0 ≤ s ∧ s ≤ 4) ∧ (g = 1) ∧ (0 ≤ k ∧ k ≤ tA t 69 1 - 1) ∧ z = tA t 86 s.toNat ∧ (∀ i, tA t' 86 i = if i = s.toNat then g else tA t 86 i) ∧ (∀ i, tA t' 87 i = if i = s.toNat then (tA t 69 (29 + 5 * k + 0).toNat) else tA t 87 i) ∧ (∀ i, tA t' 88 i = if i = s.toNat then (woF (tA t 69 (29 + 5 * k + 0).toNat) (tA t 69 (29 + 5 * k + 1).toNat) (tA t 69 (29 + 5 * k + 2).toNat)) else tA t 88 i) ∧ (∀ i, tA t' 89 i = tA t 89 i)) ∨ ((0 ≤ s ∧ s ≤ 4) ∧ (g = 2) ∧ (0 ≤ k ∧ k ≤ 3) ∧ (¬ tA t 83 k.toNat = -1) ∧ z = tA t 86 s.toNat ∧ (∀ i, tA t' 86 i = if i = s.toNat then g else tA t 86 i) ∧ (∀ i, tA t' 87 i = if i = s.toNat then tA t 84 k.toNat else tA t 87 i) ∧ (∀ i, ¬ i = s.toNat → tA t' 88 i = tA t 88 i) ∧ (∀ i : Nat, tA t' 89 i = if 24 * s ≤ (i : Int) ∧ (i : Int) < 24 * s + 24 then tA t 85 (24 * k.toNat + (i - (24 * s).toNat)) else tA t 89 i))))) := by
        intro n10
        induction n10 with
        | zero => intro M10 m t19 ok19 fr19 i10_0 i10_1 i10_2 i10_3 i10_4 v10 f10; exfalso; omega
        | succ n10 ih10 =>
          intro M10 m t19 ok19 fr19 i10_0 i10_1 i10_2 i10_3 i10_4 v10 f10
          obtain ⟨M10, rfl⟩ : ∃ m, M10 = m + 60 := ⟨M10 - 60, by omega⟩
          refine w_step rfl ?_
          refine w_iload rfl ?_
          refine w_push kc_24 ?_
          refine w_cge (by omega) (fun h20 => ?_) (fun h20 => ?_)
          · skip
            refine w_step rfl ?_
            refine w_iload rfl ?_
            refine w_retI rfl ?_
            exact ⟨ok19, fr19, (by (exact Or.inr (Or.inr (Or.inr (Or.inr (⟨by omega, by omega, by omega, by omega, by first | omega | (subst_vars; rfl), by intro i; rw [i10_2 86 i (by decide), w3, tA_uA, if_neg (by omega), w2, tA_uA, if_neg (by omega), w1, tA_uA]; simp, by intro i; rw [i10_2 87 i (by decide), w3, tA_uA, if_neg (by omega), w2, tA_uA, u1 87 i (by decide), ek]; simp, by intro i hi; rw [i10_2 88 i (by decide), w3, tA_uA, if_neg (fun q => hi q.2), u2 88 i (by decide) (by decide)], by have e : m = 24 := (by omega); rw [e] at i10_3; exact i10_3⟩))))))⟩
          refine w_iload rfl ?_
          refine w_push kc_2 ?_
          refine w_cne (by omega) (fun h => absurd h (by omega)) (fun _ => ?_)
          refine w_aload rfl ?_
          refine w_getR (g_68_32 _) ?_
          refine w_push kc_24 ?_
          refine w_iload rfl ?_
          refine w_mul ?_
          refine w_iload rfl ?_
          refine w_add ?_
          refine w_aload rfl ?_
          refine w_getR (g_68_28 _) ?_
          refine w_push kc_24 ?_
          refine w_iload rfl ?_
          refine w_mul ?_
          refine w_iload rfl ?_
          refine w_add ?_
          refine w_iald (i := (((24 * k) + m)).toNat) (ai_85 _) (by omega) (by omega) (ae_85 _) ok19 (fun z21 hz21 hl21 hh21 => ?_)
          have ev : z21 = tA t 85 (24 * k.toNat + m.toNat) := by
            rw [hz21, i10_2 85 _ (by decide), u3 85 _ (by decide) (by decide) (by decide)]
            congr 1
            omega
          refine w_iast (i := (((24 * s) + m)).toNat) (ai_89 _) rfl (by omega) (by omega) (ae_89 _) ok19 (by omega) (fun t22 ht22 ok22 => ?_)
          have fr22 := fr19.uA ht22 (by simp)
          have w4 := ht22
          refine w_iinc (lv' := [some (.ref 68), some (.int (jI s)), some (.int (jI g)), some (.int (jI k)), some (.int (jI z14)), some (.int (jI (m + 1)))]) kc_1 rfl rfl ?_
          refine w_goto ?_
          exact ih10 _ (m + 1) t22 ok22 fr22 (by omega) (by omega) (by intro c i hc; rw [w4, tA_uA, if_neg (fun q => hc q.1)]; exact i10_2 c i hc) (deal_step (F := (fun j => tA t 85 (24 * k.toNat + j))) (n := 24 * s) (i := m) (by omega) i10_0 rfl i10_3 (by intro i; rw [w4, tA_uA]; simp) ev) (by omega) (by omega) (by omega)
      exact key10 25 _ 0 t18 ok18 fr18 (by omega) (by omega) (fun _ _ _ => rfl) (by intro i; rw [if_neg (by omega)]; exact u3 89 i (by decide) (by decide) (by decide)) (by omega) (by omega) (by omega)
    refine w_push kc_m1000000011 ?_
    refine w_retI rfl ?_
    exact ⟨ok, fr, (by (exact Or.inr (Or.inl ⟨by omega, by omega, by omega, by omega, by first | omega | (subst_vars; rfl), rfl⟩)))⟩
  refine w_aload rfl ?_
  refine w_iload rfl ?_
  refine w_callV1I (oj_68 _).choose_spec rfl (c_X9_isStone ok (by omega) (by omega)) ?_
  rintro z23 t23 ⟨rfl, hp23_0⟩
  rcases hp23_0 with ⟨rfl, hp23_0⟩ | ⟨rfl, hp23_0⟩
  · skip
    refine w_ieq (by omega) (fun _ => ?_) (fun h => absurd (by omega) h)
    refine w_step rfl ?_
    refine w_push kc_m1000000001 ?_
    refine w_retI rfl ?_
    exact ⟨ok, fr, (by (exact Or.inl ⟨by omega, by first | omega | (subst_vars; rfl), rfl⟩))⟩
  refine w_ieq (by omega) (fun h => absurd h (by omega)) (fun _ => ?_)
  refine w_goto ?_
  refine w_step rfl ?_
  refine w_iload rfl ?_
  refine w_push kc_2 ?_
  refine w_cne (by omega) (fun _ => ?_) (fun h => absurd (by omega) h)
  refine w_step rfl ?_
  refine w_iload rfl ?_
  refine w_push kc_2 ?_
  refine w_cne (by omega) (fun _ => ?_) (fun h => absurd (by omega) h)
  refine w_step rfl ?_
  refine w_aload rfl ?_
  refine w_getR (g_68_29 _) ?_
  refine w_iload rfl ?_
  refine w_iald (i := (s).toNat) (ai_86 _) (by omega) (by omega) (ae_86 _) ok (fun z24 hz24 hl24 hh24 => ?_)
  have ez := hz24
  refine w_istore (lv' := [some (.ref 68), some (.int (jI s)), some (.int (jI g)), some (.int (jI k)), some (.int (jI z24)), none]) rfl ?_
  refine w_aload rfl ?_
  refine w_getR (g_68_29 _) ?_
  refine w_iload rfl ?_
  refine w_iload rfl ?_
  refine w_iast (i := (s).toNat) (ai_86 _) rfl (by omega) (by omega) (ae_86 _) ok (by omega) (fun t25 ht25 ok25 => ?_)
  have fr25 := fr.uA ht25 (by simp)
  have w1 := ht25
  have u1 : ∀ c i, ¬ c = 86 → tA t25 c i = tA t c i := fun c i hc => by rw [w1, tA_uA, if_neg (fun q => hc q.1)]
  refine w_aload rfl ?_
  refine w_getR (g_68_30 _) ?_
  refine w_iload rfl ?_
  refine w_iload rfl ?_
  refine w_push kc_1 ?_
  refine w_cne (by omega) (fun h => absurd h (by omega)) (fun _ => ?_)
  refine w_aload rfl ?_
  refine w_iload rfl ?_
  refine w_push kc_0 ?_
  refine w_callV2I (oj_68 _).choose_spec rfl (c_X9_of ok25 (by omega) (by omega) (by omega) (by omega)) ?_
  rintro z26 t26 ⟨rfl, hp26_0, hp26_1, hp26_2⟩
  have hr26 := of_r0 (s := k) ok25 (by omega)
  have ek : z26 = (tA t 69 (29 + 5 * k + 0).toNat) := by rw [hp26_0, u1 69 _ (by decide)]
  refine w_goto ?_
  refine w_step rfl ?_
  refine w_iast (i := (s).toNat) (ai_87 _) rfl (by omega) (by omega) (ae_87 _) ok25 (by omega) (fun t27 ht27 ok27 => ?_)
  have fr27 := fr25.uA ht27 (by simp)
  have w2 := ht27
  have u2 : ∀ c i, ¬ c = 86 → ¬ c = 87 → tA t27 c i = tA t c i := fun c i hc hd => by rw [w2, tA_uA, if_neg (fun q => hd q.1)]; exact u1 c i hc
  refine w_aload rfl ?_
  refine w_getR (g_68_31 _) ?_
  refine w_iload rfl ?_
  refine w_iload rfl ?_
  refine w_push kc_1 ?_
  refine w_cne (by omega) (fun h => absurd h (by omega)) (fun _ => ?_)
  refine w_aload rfl ?_
  refine w_iload rfl ?_
  refine w_callV1I (oj_68 _).choose_spec rfl (c_X9_worthOf ok27 (by omega) (by omega)) ?_
  rintro z28 t28 ⟨rfl, hp28_0, hp28_1, hp28_2⟩
  have ey : z28 = (woF (tA t 69 (29 + 5 * k + 0).toNat) (tA t 69 (29 + 5 * k + 1).toNat) (tA t 69 (29 + 5 * k + 2).toNat)) := by rw [hp28_0, u2 69 _ (by decide) (by decide), u2 69 _ (by decide) (by decide), u2 69 _ (by decide) (by decide)]
  refine w_goto ?_
  refine w_step rfl ?_
  refine w_iast (i := (s).toNat) (ai_88 _) rfl (by omega) (by omega) (ae_88 _) ok27 (by omega) (fun t29 ht29 ok29 => ?_)
  have fr29 := fr27.uA ht29 (by simp)
  have w3 := ht29
  have u3 : ∀ c i, ¬ c = 86 → ¬ c = 87 → ¬ c = 88 → tA t29 c i = tA t c i := fun c i hc hd he => by rw [w3, tA_uA, if_neg (fun q => he q.1)]; exact u2 c i hc hd
  refine w_push kc_0 ?_
  refine w_istore (lv' := [some (.ref 68), some (.int (jI s)), some (.int (jI g)), some (.int (jI k)), some (.int (jI z24)), some (.int (jI 0))]) rfl ?_
  refine w_goto ?_
  have key10 : ∀ (n10 M10 : Nat) (m : Int) (t30 : TS), OK t30 → Fr [(86, 100), (87, 100), (88, 100), (89, 100)] t t30 → (0 ≤ m) → (m ≤ 24) → (∀ c i, ¬ c = 89 → tA t30 c i = tA t29 c i) → (∀ i : Nat, tA t30 89 i = if 24 * s ≤ (i : Int) ∧ (i : Int) < 24 * s + m then (fun j => tA t 85 (24 * k.toNat + j)) (i - (24 * s).toNat) else tA t 89 i) → (g = 2 ∨ m = 0) → 24 - m < (n10 : Int) → 60 * n10 + (1000) ≤ M10 → Rn (bX9_lay (EX FU (d + 2))) M10 10 [some (.ref 68), some (.int (jI s)), some (.int (jI g)), some (.int (jI k)), some (.int (jI z24)), some (.int (jI m))] [] (mk t30) (PI (fun z t' => OK t' ∧ Fr [(86, 100), (87, 100), (88, 100), (89, 100)] t t' ∧ (((¬ (0 ≤ s ∧ s ≤ 4 ∧ 0 ≤ g ∧ g ≤ 3) ∨ (g = 1 ∧ ¬ (0 ≤ k ∧ k ≤ tA t 69 1 - 1)) ∨ (g = 2 ∧ ¬ (0 ≤ k ∧ k ≤ 3))) ∧ z = (-1000000001) ∧ t' = t) ∨ ((0 ≤ s ∧ s ≤ 4) ∧ (g = 2) ∧ (0 ≤ k ∧ k ≤ 3) ∧ (tA t 83 k.toNat = -1) ∧ z = (-1000000011) ∧ t' = t) ∨ ((0 ≤ s ∧ s ≤ 4) ∧ (g = 0 ∨ g = 3) ∧ z = tA t 86 s.toNat ∧ (∀ i, tA t' 86 i = if i = s.toNat then g else tA t 86 i) ∧ (∀ i, tA t' 87 i = if i = s.toNat then k else tA t 87 i) ∧ (∀ i, ¬ i = s.toNat → tA t' 88 i = tA t 88 i) ∧ (∀ i, tA t' 89 i = tA t 89 i)) ∨ ((0 ≤ s ∧ s ≤ 4) ∧ (g = 1) ∧ (0 ≤ k ∧ k ≤ tA t 69 1 - 1) ∧ z = tA t 86 s.toNat ∧ (∀ i, tA t' 86 i = if i = s.toNat then g else tA t 86 i) ∧ (∀ i, tA t' 87 i = if i = s.toNat then (tA t 69 (29 + 5 * k + 0).toNat) else tA t 87 i) ∧ (∀ i, tA t' 88 i = if i = s.toNat then (woF (tA t 69 (29 + 5 * k + 0).toNat) (tA t 69 (29 + 5 * k + 1).toNat) (tA t 69 (29 + 5 * k + 2).toNat)) else tA t 88 i) ∧ (∀ i, tA t' 89 i = tA t 89 i)) ∨ ((0 ≤ s ∧ s ≤ 4) ∧ (g = 2) ∧ (0 ≤ k ∧ k ≤ 3) ∧ (¬ tA t 83 k.toNat = -1) ∧ z = tA t 86 s.toNat ∧ (∀ i, tA t' 86 i = if i = s.toNat then g else tA t 86 i) ∧ (∀ i, tA t' 87 i = if i = s.toNat then tA t 84 k.toNat else tA t 87 i) ∧ (∀ i, ¬ i = s.toNat → tA t' 88 i = tA t 88 i) ∧ (∀ i : Nat, tA t' 89 i = if 24 * s ≤ (i : Int) ∧ (i : Int) < 24 * s + 24 then tA t 85 (24 * k.toNat + (i - (24 * s).toNat)) else tA t 89 i))))) := by
    intro n10
    induction n10 with
    | zero => intro M10 m t30 ok30 fr30 i10_0 i10_1 i10_2 i10_3 i10_4 v10 f10; exfalso; omega
    | succ n10 ih10 =>
      intro M10 m t30 ok30 fr30 i10_0 i10_1 i10_2 i10_3 i10_4 v10 f10
      obtain ⟨M10, rfl⟩ : ∃ m, M10 = m + 60 := ⟨M10 - 60, by omega⟩
      refine w_step rfl ?_
      refine w_iload rfl ?_
      refine w_push kc_24 ?_
      refine w_cge (by omega) (fun h31 => ?_) (fun h31 => ?_)
      · skip
        refine w_step rfl ?_
        refine w_iload rfl ?_
        refine w_retI rfl ?_
        exact ⟨ok30, fr30, (by (exact Or.inr (Or.inr (Or.inr (Or.inl ⟨by omega, by omega, by omega, by first | omega | (subst_vars; rfl), by intro i; rw [i10_2 86 i (by decide), w3, tA_uA, if_neg (by omega), w2, tA_uA, if_neg (by omega), w1, tA_uA]; simp, by intro i; rw [i10_2 87 i (by decide), w3, tA_uA, if_neg (by omega), w2, tA_uA, u1 87 i (by decide), ek]; simp, by intro i; rw [i10_2 88 i (by decide), w3, tA_uA, u2 88 i (by decide) (by decide), ey]; simp, by intro i; rw [i10_3 i, if_neg (by omega)]⟩)))))⟩
      refine w_iload rfl ?_
      refine w_push kc_2 ?_
      refine w_cne (by omega) (fun _ => ?_) (fun h => absurd (by omega) h)
      refine w_step rfl ?_
      refine w_iload rfl ?_
      refine w_retI rfl ?_
      exact ⟨ok30, fr30, (by (exact Or.inr (Or.inr (Or.inr (Or.inl ⟨by omega, by omega, by omega, by first | omega | (subst_vars; rfl), by intro i; rw [i10_2 86 i (by decide), w3, tA_uA, if_neg (by omega), w2, tA_uA, if_neg (by omega), w1, tA_uA]; simp, by intro i; rw [i10_2 87 i (by decide), w3, tA_uA, if_neg (by omega), w2, tA_uA, u1 87 i (by decide), ek]; simp, by intro i; rw [i10_2 88 i (by decide), w3, tA_uA, u2 88 i (by decide) (by decide), ey]; simp, by intro i; rw [i10_3 i, if_neg (by omega)]⟩)))))⟩
  exact key10 25 _ 0 t29 ok29 fr29 (by omega) (by omega) (fun _ _ _ => rfl) (by intro i; rw [if_neg (by omega)]; exact u3 89 i (by decide) (by decide) (by decide)) (by omega) (by omega) (by omega)
set_option maxRecDepth 100000 in
set_option maxHeartbeats 4000000 in
theorem c_X9_ask {d : Nat} {t : TS} {s k : Int}  (ok : OK t) (q0 : -2147483648 ≤ s) (q1 : s ≤ 2147483647) (q2 : -2147483648 ≤ k) (q3 : k ≤ 2147483647) : CI (EX FU (d + 3)) 214 [.ref 68, .int (jI s), .int (jI k)] (mk t) (fun z t' => t = t' ∧ (((¬ (0 ≤ s ∧ s ≤ 4 ∧ 0 ≤ k ∧ k ≤ 5)) ∧ z = (-1000000001)) ∨ ((0 ≤ s ∧ s ≤ 4 ∧ 0 ≤ k ∧ k ≤ 5) ∧ (tA t 86 s.toNat = 0) ∧ z = (-1000000011)) ∨ ((0 ≤ s ∧ s ≤ 4 ∧ 0 ≤ k ∧ k ≤ 5) ∧ (¬ tA t 86 s.toNat = 0) ∧ (¬ tA t 86 s.toNat = 1) ∧ z = (-1000000012)) ∨ ((0 ≤ s ∧ s ≤ 4 ∧ 0 ≤ k ∧ k ≤ 5) ∧ (tA t 86 s.toNat = 1) ∧ (tA t 87 s.toNat = k ∨ k = 0 ∨ (k = 1 ∧ tA t 87 s.toNat = 3) ∨ (k = 2 ∧ tA t 87 s.toNat = 4)) ∧ z = tA t 88 s.toNat) ∨ ((0 ≤ s ∧ s ≤ 4 ∧ 0 ≤ k ∧ k ≤ 5) ∧ (tA t 86 s.toNat = 1) ∧ (¬ (tA t 87 s.toNat = k ∨ k = 0 ∨ (k = 1 ∧ tA t 87 s.toNat = 3) ∨ (k = 2 ∧ tA t 87 s.toNat = 4))) ∧ z = (-1000000012)))) := by
  refine CI_ent (d := d + 2) (Bk := bX9_ask) (nL := 3) rfl rfl rfl (Nat.le_of_ble_eq_true rfl) ?_
  show Rn _ 1000000 0 [some (.ref 68), some (.int (jI s)), some (.int (jI k))] [] _ _
  have hn0 := (ok.a (ax_69 nr_1)).1
  have hn1 := (ok.a (ax_69 nr_1)).2
  refine w_step rfl ?_
  refine w_iload rfl ?_
  refine w_callS1I rfl (c_X9_isSlot ok (by omega) (by omega)) ?_
  rintro z1 t1 ⟨rfl, hp1_0⟩
  rcases hp1_0 with ⟨rfl, hp1_0⟩ | ⟨rfl, hp1_0⟩
  · skip
    refine w_ieq (by omega) (fun _ => ?_) (fun h => absurd (by omega) h)
    refine w_step rfl ?_
    refine w_push kc_m1000000001 ?_
    refine w_retI rfl ?_
    exact ⟨rfl, (by first | (exact Or.inl ⟨by omega, by first | omega | (subst_vars; rfl)⟩) | (exact Or.inr (Or.inl ⟨by omega, by omega, by first | omega | (subst_vars; rfl)⟩)) | (exact Or.inr (Or.inr (Or.inl ⟨by omega, by omega, by omega, by first | omega | (subst_vars; rfl)⟩))) | (exact Or.inr (Or.inr (Or.inr (Or.inl ⟨by omega, by omega, by omega, by first | omega | (subst_vars; rfl)⟩)))) | (exact Or.inr (Or.inr (Or.inr (Or.inr (⟨by omega, by omega, by omega, by first | omega | (subst_vars; rfl)⟩))))))⟩
  refine w_ieq (by omega) (fun h => absurd h (by omega)) (fun _ => ?_)
  refine w_iload rfl ?_
  refine w_push kc_0 ?_
  refine w_push kc_5 ?_
  refine w_callS3I rfl (c_X9_in ok (by omega) (by omega) (by omega) (by omega) (by omega) (by omega)) ?_
  rintro z2 t2 ⟨rfl, hp2_0⟩
  rcases hp2_0 with ⟨rfl, hp2_0⟩ | ⟨rfl, hp2_0⟩
  · skip
    refine w_ine (by omega) (fun h => absurd h (by omega)) (fun _ => ?_)
    refine w_goto ?_
    refine w_step rfl ?_
    refine w_push kc_m1000000001 ?_
    refine w_retI rfl ?_
    exact ⟨rfl, (by first | (exact Or.inl ⟨by omega, by first | omega | (subst_vars; rfl)⟩) | (exact Or.inr (Or.inl ⟨by omega, by omega, by first | omega | (subst_vars; rfl)⟩)) | (exact Or.inr (Or.inr (Or.inl ⟨by omega, by omega, by omega, by first | omega | (subst_vars; rfl)⟩))) | (exact Or.inr (Or.inr (Or.inr (Or.inl ⟨by omega, by omega, by omega, by first | omega | (subst_vars; rfl)⟩)))) | (exact Or.inr (Or.inr (Or.inr (Or.inr (⟨by omega, by omega, by omega, by first | omega | (subst_vars; rfl)⟩))))))⟩
  refine w_ine (by omega) (fun _ => ?_) (fun h => absurd (by omega) h)
  refine w_step rfl ?_
  refine w_aload rfl ?_
  refine w_getR (g_68_29 _) ?_
  refine w_iload rfl ?_
  refine w_iald (i := (s).toNat) (ai_86 _) (by omega) (by omega) (ae_86 _) ok (fun z3 hz3 hl3 hh3 => ?_)
  refine w_ine (by omega) (fun h4 => ?_) (fun h4 => ?_)
  · skip
    refine w_step rfl ?_
    refine w_aload rfl ?_
    refine w_getR (g_68_29 _) ?_
    refine w_iload rfl ?_
    refine w_iald (i := (s).toNat) (ai_86 _) (by omega) (by omega) (ae_86 _) ok (fun z5 hz5 hl5 hh5 => ?_)
    refine w_push kc_1 ?_
    refine w_cne (by omega) (fun h6 => ?_) (fun h6 => ?_)
    · skip
      refine w_step rfl ?_
      refine w_push kc_m1000000012 ?_
      refine w_goto ?_
      refine w_step rfl ?_
      refine w_retI rfl ?_
      exact ⟨rfl, (by first | (exact Or.inl ⟨by omega, by first | omega | (subst_vars; rfl)⟩) | (exact Or.inr (Or.inl ⟨by omega, by omega, by first | omega | (subst_vars; rfl)⟩)) | (exact Or.inr (Or.inr (Or.inl ⟨by omega, by omega, by omega, by first | omega | (subst_vars; rfl)⟩))) | (exact Or.inr (Or.inr (Or.inr (Or.inl ⟨by omega, by omega, by omega, by first | omega | (subst_vars; rfl)⟩)))) | (exact Or.inr (Or.inr (Or.inr (Or.inr (⟨by omega, by omega, by omega, by first | omega | (subst_vars; rfl)⟩))))))⟩
    refine w_aload rfl ?_
    refine w_getR (g_68_30 _) ?_
    refine w_iload rfl ?_
    refine w_iald (i := (s).toNat) (ai_87 _) (by omega) (by omega) (ae_87 _) ok (fun z7 hz7 hl7 hh7 => ?_)
    refine w_iload rfl ?_
    refine w_callS2I rfl (c_X9_isUnder ok (by omega) (by omega) (by omega) (by omega)) ?_
    rintro z8 t8 ⟨rfl, hp8_0⟩
    rcases hp8_0 with ⟨rfl, hp8_0⟩ | ⟨rfl, hp8_0⟩
    · skip
      refine w_ieq (by omega) (fun _ => ?_) (fun h => absurd (by omega) h)
      refine w_step rfl ?_
      refine w_push kc_m1000000012 ?_
      refine w_goto ?_
      refine w_step rfl ?_
      refine w_retI rfl ?_
      exact ⟨rfl, (by first | (exact Or.inl ⟨by omega, by first | omega | (subst_vars; rfl)⟩) | (exact Or.inr (Or.inl ⟨by omega, by omega, by first | omega | (subst_vars; rfl)⟩)) | (exact Or.inr (Or.inr (Or.inl ⟨by omega, by omega, by omega, by first | omega | (subst_vars; rfl)⟩))) | (exact Or.inr (Or.inr (Or.inr (Or.inl ⟨by omega, by omega, by omega, by first | omega | (subst_vars; rfl)⟩)))) | (exact Or.inr (Or.inr (Or.inr (Or.inr (⟨by omega, by omega, by omega, by first | omega | (subst_vars; rfl)⟩))))))⟩
    refine w_ieq (by omega) (fun h => absurd h (by omega)) (fun _ => ?_)
    refine w_aload rfl ?_
    refine w_getR (g_68_31 _) ?_
    refine w_iload rfl ?_
    refine w_iald (i := (s).toNat) (ai_88 _) (by omega) (by omega) (ae_88 _) ok (fun z9 hz9 hl9 hh9 => ?_)
    refine w_goto ?_
    refine w_step rfl ?_
    refine w_retI rfl ?_
    exact ⟨rfl, (by first | (exact Or.inl ⟨by omega, by first | omega | (subst_vars; rfl)⟩) | (exact Or.inr (Or.inl ⟨by omega, by omega, by first | omega | (subst_vars; rfl)⟩)) | (exact Or.inr (Or.inr (Or.inl ⟨by omega, by omega, by omega, by first | omega | (subst_vars; rfl)⟩))) | (exact Or.inr (Or.inr (Or.inr (Or.inl ⟨by omega, by omega, by omega, by first | omega | (subst_vars; rfl)⟩)))) | (exact Or.inr (Or.inr (Or.inr (Or.inr (⟨by omega, by omega, by omega, by first | omega | (subst_vars; rfl)⟩))))))⟩
  refine w_push kc_m1000000011 ?_
  refine w_retI rfl ?_
  exact ⟨rfl, (by first | (exact Or.inl ⟨by omega, by first | omega | (subst_vars; rfl)⟩) | (exact Or.inr (Or.inl ⟨by omega, by omega, by first | omega | (subst_vars; rfl)⟩)) | (exact Or.inr (Or.inr (Or.inl ⟨by omega, by omega, by omega, by first | omega | (subst_vars; rfl)⟩))) | (exact Or.inr (Or.inr (Or.inr (Or.inl ⟨by omega, by omega, by omega, by first | omega | (subst_vars; rfl)⟩)))) | (exact Or.inr (Or.inr (Or.inr (Or.inr (⟨by omega, by omega, by omega, by first | omega | (subst_vars; rfl)⟩))))))⟩
set_option maxRecDepth 100000 in
set_option maxHeartbeats 4000000 in
theorem c_X9_item {d : Nat} {t : TS} {s p : Int}  (ok : OK t) (q0 : -2147483648 ≤ s) (q1 : s ≤ 2147483647) (q2 : -2147483648 ≤ p) (q3 : p ≤ 2147483647) (q4 : ∀ i : Nat, i < 5 → tA t 86 i = 2 → 0 ≤ tA t 87 i ∧ tA t 87 i ≤ 24) : CI (EX FU (d + 3)) 215 [.ref 68, .int (jI s), .int (jI p)] (mk t) (fun z t' => t = t' ∧ (((¬ (0 ≤ s ∧ s ≤ 4)) ∧ z = (-1000000001)) ∨ ((0 ≤ s ∧ s ≤ 4) ∧ (tA t 86 s.toNat = 0) ∧ z = (-1000000011)) ∨ ((0 ≤ s ∧ s ≤ 4) ∧ (¬ tA t 86 s.toNat = 0) ∧ (¬ tA t 86 s.toNat = 2) ∧ z = (-1000000012)) ∨ ((0 ≤ s ∧ s ≤ 4) ∧ (tA t 86 s.toNat = 2) ∧ (¬ (0 ≤ p ∧ p ≤ tA t 87 s.toNat - 1)) ∧ z = (-1000000013)) ∨ ((0 ≤ s ∧ s ≤ 4) ∧ (tA t 86 s.toNat = 2) ∧ (0 ≤ p ∧ p ≤ tA t 87 s.toNat - 1) ∧ (tA t 89 (24 * s + p).toNat = (-1000000005)) ∧ z = (-1000000012)) ∨ ((0 ≤ s ∧ s ≤ 4) ∧ (tA t 86 s.toNat = 2) ∧ (0 ≤ p ∧ p ≤ tA t 87 s.toNat - 1) ∧ (¬ tA t 89 (24 * s + p).toNat = (-1000000005)) ∧ z = tA t 89 (24 * s + p).toNat))) := by
  refine CI_ent (d := d + 2) (Bk := bX9_item) (nL := 4) rfl rfl rfl (Nat.le_of_ble_eq_true rfl) ?_
  show Rn _ 1000000 0 [some (.ref 68), some (.int (jI s)), some (.int (jI p)), none] [] _ _
  have hn0 := (ok.a (ax_69 nr_1)).1
  have hn1 := (ok.a (ax_69 nr_1)).2
  refine w_step rfl ?_
  refine w_iload rfl ?_
  refine w_callS1I rfl (c_X9_isSlot ok (by omega) (by omega)) ?_
  rintro z1 t1 ⟨rfl, hp1_0⟩
  rcases hp1_0 with ⟨rfl, hp1_0⟩ | ⟨rfl, hp1_0⟩
  · skip
    refine w_ine (by omega) (fun h => absurd h (by omega)) (fun _ => ?_)
    refine w_push kc_m1000000001 ?_
    refine w_retI rfl ?_
    exact ⟨rfl, (by first | (exact Or.inl ⟨by omega, by first | omega | (subst_vars; rfl)⟩) | (exact Or.inr (Or.inl ⟨by omega, by omega, by first | omega | (subst_vars; rfl)⟩)) | (exact Or.inr (Or.inr (Or.inl ⟨by omega, by omega, by omega, by first | omega | (subst_vars; rfl)⟩))) | (exact Or.inr (Or.inr (Or.inr (Or.inl ⟨by omega, by omega, by omega, by first | omega | (subst_vars; rfl)⟩)))) | (exact Or.inr (Or.inr (Or.inr (Or.inr (Or.inl ⟨by omega, by omega, by omega, by omega, by first | omega | (subst_vars; rfl)⟩))))) | (exact Or.inr (Or.inr (Or.inr (Or.inr (Or.inr (⟨by omega, by omega, by omega, by omega, by first | omega | (subst_vars; rfl)⟩)))))))⟩
  refine w_ine (by omega) (fun _ => ?_) (fun h => absurd (by omega) h)
  refine w_step rfl ?_
  refine w_aload rfl ?_
  refine w_getR (g_68_29 _) ?_
  refine w_iload rfl ?_
  refine w_iald (i := (s).toNat) (ai_86 _) (by omega) (by omega) (ae_86 _) ok (fun z2 hz2 hl2 hh2 => ?_)
  refine w_ine (by omega) (fun h3 => ?_) (fun h3 => ?_)
  · skip
    refine w_step rfl ?_
    refine w_aload rfl ?_
    refine w_getR (g_68_29 _) ?_
    refine w_iload rfl ?_
    refine w_iald (i := (s).toNat) (ai_86 _) (by omega) (by omega) (ae_86 _) ok (fun z4 hz4 hl4 hh4 => ?_)
    refine w_push kc_2 ?_
    refine w_ceq (by omega) (fun h5 => ?_) (fun h5 => ?_)
    · skip
      refine w_step rfl ?_
      have hq := q4 s.toNat (by omega) (by omega)
      refine w_iload rfl ?_
      refine w_push kc_0 ?_
      refine w_aload rfl ?_
      refine w_getR (g_68_30 _) ?_
      refine w_iload rfl ?_
      refine w_iald (i := (s).toNat) (ai_87 _) (by omega) (by omega) (ae_87 _) ok (fun z6 hz6 hl6 hh6 => ?_)
      refine w_push kc_1 ?_
      refine w_sub ?_
      refine w_callS3I rfl (c_X9_in ok (by omega) (by omega) (by omega) (by omega) (by omega) (by omega)) ?_
      rintro z7 t7 ⟨rfl, hp7_0⟩
      rcases hp7_0 with ⟨rfl, hp7_0⟩ | ⟨rfl, hp7_0⟩
      · skip
        refine w_ine (by omega) (fun h => absurd h (by omega)) (fun _ => ?_)
        refine w_push kc_m1000000013 ?_
        refine w_retI rfl ?_
        exact ⟨rfl, (by first | (exact Or.inl ⟨by omega, by first | omega | (subst_vars; rfl)⟩) | (exact Or.inr (Or.inl ⟨by omega, by omega, by first | omega | (subst_vars; rfl)⟩)) | (exact Or.inr (Or.inr (Or.inl ⟨by omega, by omega, by omega, by first | omega | (subst_vars; rfl)⟩))) | (exact Or.inr (Or.inr (Or.inr (Or.inl ⟨by omega, by omega, by omega, by first | omega | (subst_vars; rfl)⟩)))) | (exact Or.inr (Or.inr (Or.inr (Or.inr (Or.inl ⟨by omega, by omega, by omega, by omega, by first | omega | (subst_vars; rfl)⟩))))) | (exact Or.inr (Or.inr (Or.inr (Or.inr (Or.inr (⟨by omega, by omega, by omega, by omega, by first | omega | (subst_vars; rfl)⟩)))))))⟩
      refine w_ine (by omega) (fun _ => ?_) (fun h => absurd (by omega) h)
      refine w_step rfl ?_
      refine w_aload rfl ?_
      refine w_getR (g_68_32 _) ?_
      refine w_push kc_24 ?_
      refine w_iload rfl ?_
      refine w_mul ?_
      refine w_iload rfl ?_
      refine w_add ?_
      refine w_iald (i := (((24 * s) + p)).toNat) (ai_89 _) (by omega) (by omega) (ae_89 _) ok (fun z8 hz8 hl8 hh8 => ?_)
      refine w_istore (lv' := [some (.ref 68), some (.int (jI s)), some (.int (jI p)), some (.int (jI z8))]) rfl ?_
      refine w_iload rfl ?_
      refine w_push kc_m1000000005 ?_
      refine w_cne (by omega) (fun h9 => ?_) (fun h9 => ?_)
      · skip
        refine w_step rfl ?_
        refine w_iload rfl ?_
        refine w_goto ?_
        refine w_step rfl ?_
        refine w_retI rfl ?_
        exact ⟨rfl, (by first | (exact Or.inl ⟨by omega, by first | omega | (subst_vars; rfl)⟩) | (exact Or.inr (Or.inl ⟨by omega, by omega, by first | omega | (subst_vars; rfl)⟩)) | (exact Or.inr (Or.inr (Or.inl ⟨by omega, by omega, by omega, by first | omega | (subst_vars; rfl)⟩))) | (exact Or.inr (Or.inr (Or.inr (Or.inl ⟨by omega, by omega, by omega, by first | omega | (subst_vars; rfl)⟩)))) | (exact Or.inr (Or.inr (Or.inr (Or.inr (Or.inl ⟨by omega, by omega, by omega, by omega, by first | omega | (subst_vars; rfl)⟩))))) | (exact Or.inr (Or.inr (Or.inr (Or.inr (Or.inr (⟨by omega, by omega, by omega, by omega, by first | omega | (subst_vars; rfl)⟩)))))))⟩
      refine w_push kc_m1000000012 ?_
      refine w_goto ?_
      refine w_step rfl ?_
      refine w_retI rfl ?_
      exact ⟨rfl, (by first | (exact Or.inl ⟨by omega, by first | omega | (subst_vars; rfl)⟩) | (exact Or.inr (Or.inl ⟨by omega, by omega, by first | omega | (subst_vars; rfl)⟩)) | (exact Or.inr (Or.inr (Or.inl ⟨by omega, by omega, by omega, by first | omega | (subst_vars; rfl)⟩))) | (exact Or.inr (Or.inr (Or.inr (Or.inl ⟨by omega, by omega, by omega, by first | omega | (subst_vars; rfl)⟩)))) | (exact Or.inr (Or.inr (Or.inr (Or.inr (Or.inl ⟨by omega, by omega, by omega, by omega, by first | omega | (subst_vars; rfl)⟩))))) | (exact Or.inr (Or.inr (Or.inr (Or.inr (Or.inr (⟨by omega, by omega, by omega, by omega, by first | omega | (subst_vars; rfl)⟩)))))))⟩
    refine w_push kc_m1000000012 ?_
    refine w_retI rfl ?_
    exact ⟨rfl, (by first | (exact Or.inl ⟨by omega, by first | omega | (subst_vars; rfl)⟩) | (exact Or.inr (Or.inl ⟨by omega, by omega, by first | omega | (subst_vars; rfl)⟩)) | (exact Or.inr (Or.inr (Or.inl ⟨by omega, by omega, by omega, by first | omega | (subst_vars; rfl)⟩))) | (exact Or.inr (Or.inr (Or.inr (Or.inl ⟨by omega, by omega, by omega, by first | omega | (subst_vars; rfl)⟩)))) | (exact Or.inr (Or.inr (Or.inr (Or.inr (Or.inl ⟨by omega, by omega, by omega, by omega, by first | omega | (subst_vars; rfl)⟩))))) | (exact Or.inr (Or.inr (Or.inr (Or.inr (Or.inr (⟨by omega, by omega, by omega, by omega, by first | omega | (subst_vars; rfl)⟩)))))))⟩
  refine w_push kc_m1000000011 ?_
  refine w_retI rfl ?_
  exact ⟨rfl, (by first | (exact Or.inl ⟨by omega, by first | omega | (subst_vars; rfl)⟩) | (exact Or.inr (Or.inl ⟨by omega, by omega, by first | omega | (subst_vars; rfl)⟩)) | (exact Or.inr (Or.inr (Or.inl ⟨by omega, by omega, by omega, by first | omega | (subst_vars; rfl)⟩))) | (exact Or.inr (Or.inr (Or.inr (Or.inl ⟨by omega, by omega, by omega, by first | omega | (subst_vars; rfl)⟩)))) | (exact Or.inr (Or.inr (Or.inr (Or.inr (Or.inl ⟨by omega, by omega, by omega, by omega, by first | omega | (subst_vars; rfl)⟩))))) | (exact Or.inr (Or.inr (Or.inr (Or.inr (Or.inr (⟨by omega, by omega, by omega, by omega, by first | omega | (subst_vars; rfl)⟩)))))))⟩
set_option maxRecDepth 100000 in
set_option maxHeartbeats 4000000 in
theorem c_X9_rest {d : Nat} {t : TS} {s n : Int}  (ok : OK t) (q0 : -2147483648 ≤ s) (q1 : s ≤ 2147483647) (q2 : -2147483648 ≤ n) (q3 : n ≤ 2147483647) : CI (EX FU (d + 3)) 216 [.ref 68, .int (jI s), .int (jI n)] (mk t) (fun z t' => t = t' ∧ (((¬ (0 ≤ s ∧ s ≤ 4)) ∧ z = (-1000000001)) ∨ ((0 ≤ s ∧ s ≤ 4) ∧ (tA t 86 s.toNat = 0) ∧ z = (-1000000011)) ∨ ((0 ≤ s ∧ s ≤ 4) ∧ (¬ tA t 86 s.toNat = 0) ∧ (¬ tA t 86 s.toNat = 3) ∧ z = (-1000000012)) ∨ ((0 ≤ s ∧ s ≤ 4) ∧ (tA t 86 s.toNat = 3) ∧ (n = 0) ∧ z = (-1000000002)) ∨ ((0 ≤ s ∧ s ≤ 4) ∧ (tA t 86 s.toNat = 3) ∧ (n = -1) ∧ z = 0) ∨ ((0 ≤ s ∧ s ≤ 4) ∧ (tA t 86 s.toNat = 3) ∧ (¬ n = 0) ∧ (¬ n = -1) ∧ z = modF (tA t 87 s.toNat) n))) := by
  refine CI_ent (d := d + 2) (Bk := bX9_rest) (nL := 3) rfl rfl rfl (Nat.le_of_ble_eq_true rfl) ?_
  show Rn _ 1000000 0 [some (.ref 68), some (.int (jI s)), some (.int (jI n))] [] _ _
  have hn0 := (ok.a (ax_69 nr_1)).1
  have hn1 := (ok.a (ax_69 nr_1)).2
  refine w_step rfl ?_
  refine w_iload rfl ?_
  refine w_callS1I rfl (c_X9_isSlot ok (by omega) (by omega)) ?_
  rintro z1 t1 ⟨rfl, hp1_0⟩
  rcases hp1_0 with ⟨rfl, hp1_0⟩ | ⟨rfl, hp1_0⟩
  · skip
    refine w_ine (by omega) (fun h => absurd h (by omega)) (fun _ => ?_)
    refine w_push kc_m1000000001 ?_
    refine w_retI rfl ?_
    exact ⟨rfl, (by first | (exact Or.inl ⟨by omega, by first | omega | (subst_vars; rfl)⟩) | (exact Or.inr (Or.inl ⟨by omega, by omega, by first | omega | (subst_vars; rfl)⟩)) | (exact Or.inr (Or.inr (Or.inl ⟨by omega, by omega, by omega, by first | omega | (subst_vars; rfl)⟩))) | (exact Or.inr (Or.inr (Or.inr (Or.inl ⟨by omega, by omega, by omega, by first | omega | (subst_vars; rfl)⟩)))) | (exact Or.inr (Or.inr (Or.inr (Or.inr (Or.inl ⟨by omega, by omega, by omega, by first | omega | (subst_vars; rfl)⟩))))) | (exact Or.inr (Or.inr (Or.inr (Or.inr (Or.inr (⟨by omega, by omega, by omega, by omega, by first | omega | (subst_vars; rfl)⟩)))))))⟩
  refine w_ine (by omega) (fun _ => ?_) (fun h => absurd (by omega) h)
  refine w_step rfl ?_
  refine w_aload rfl ?_
  refine w_getR (g_68_29 _) ?_
  refine w_iload rfl ?_
  refine w_iald (i := (s).toNat) (ai_86 _) (by omega) (by omega) (ae_86 _) ok (fun z2 hz2 hl2 hh2 => ?_)
  refine w_ine (by omega) (fun h3 => ?_) (fun h3 => ?_)
  · skip
    refine w_step rfl ?_
    refine w_aload rfl ?_
    refine w_getR (g_68_29 _) ?_
    refine w_iload rfl ?_
    refine w_iald (i := (s).toNat) (ai_86 _) (by omega) (by omega) (ae_86 _) ok (fun z4 hz4 hl4 hh4 => ?_)
    refine w_push kc_3 ?_
    refine w_ceq (by omega) (fun h5 => ?_) (fun h5 => ?_)
    · skip
      refine w_step rfl ?_
      refine w_iload rfl ?_
      refine w_ine (by omega) (fun h6 => ?_) (fun h6 => ?_)
      · skip
        refine w_step rfl ?_
        refine w_iload rfl ?_
        refine w_push kc_m1 ?_
        refine w_cne (by omega) (fun h7 => ?_) (fun h7 => ?_)
        · skip
          refine w_step rfl ?_
          refine w_aload rfl ?_
          refine w_getR (g_68_30 _) ?_
          refine w_iload rfl ?_
          refine w_iald (i := (s).toNat) (ai_87 _) (by omega) (by omega) (ae_87 _) ok (fun z8 hz8 hl8 hh8 => ?_)
          refine w_iload rfl ?_
          refine w_divG (by omega) (fun z9 hz9 hl9 hh9 => ?_)
          refine w_goto ?_
          refine w_step rfl ?_
          refine w_retI rfl ?_
          exact ⟨rfl, (by first | (exact Or.inl ⟨by omega, by first | omega | (subst_vars; rfl)⟩) | (exact Or.inr (Or.inl ⟨by omega, by omega, by first | omega | (subst_vars; rfl)⟩)) | (exact Or.inr (Or.inr (Or.inl ⟨by omega, by omega, by omega, by first | omega | (subst_vars; rfl)⟩))) | (exact Or.inr (Or.inr (Or.inr (Or.inl ⟨by omega, by omega, by omega, by first | omega | (subst_vars; rfl)⟩)))) | (exact Or.inr (Or.inr (Or.inr (Or.inr (Or.inl ⟨by omega, by omega, by omega, by first | omega | (subst_vars; rfl)⟩))))) | (exact Or.inr (Or.inr (Or.inr (Or.inr (Or.inr (⟨by omega, by omega, by omega, by omega, by first | omega | (subst_vars; rfl)⟩)))))))⟩
        refine w_push kc_0 ?_
        refine w_goto ?_
        refine w_step rfl ?_
        refine w_retI rfl ?_
        exact ⟨rfl, (by first | (exact Or.inl ⟨by omega, by first | omega | (subst_vars; rfl)⟩) | (exact Or.inr (Or.inl ⟨by omega, by omega, by first | omega | (subst_vars; rfl)⟩)) | (exact Or.inr (Or.inr (Or.inl ⟨by omega, by omega, by omega, by first | omega | (subst_vars; rfl)⟩))) | (exact Or.inr (Or.inr (Or.inr (Or.inl ⟨by omega, by omega, by omega, by first | omega | (subst_vars; rfl)⟩)))) | (exact Or.inr (Or.inr (Or.inr (Or.inr (Or.inl ⟨by omega, by omega, by omega, by first | omega | (subst_vars; rfl)⟩))))) | (exact Or.inr (Or.inr (Or.inr (Or.inr (Or.inr (⟨by omega, by omega, by omega, by omega, by first | omega | (subst_vars; rfl)⟩)))))))⟩
      refine w_push kc_m1000000002 ?_
      refine w_goto ?_
      refine w_step rfl ?_
      refine w_retI rfl ?_
      exact ⟨rfl, (by first | (exact Or.inl ⟨by omega, by first | omega | (subst_vars; rfl)⟩) | (exact Or.inr (Or.inl ⟨by omega, by omega, by first | omega | (subst_vars; rfl)⟩)) | (exact Or.inr (Or.inr (Or.inl ⟨by omega, by omega, by omega, by first | omega | (subst_vars; rfl)⟩))) | (exact Or.inr (Or.inr (Or.inr (Or.inl ⟨by omega, by omega, by omega, by first | omega | (subst_vars; rfl)⟩)))) | (exact Or.inr (Or.inr (Or.inr (Or.inr (Or.inl ⟨by omega, by omega, by omega, by first | omega | (subst_vars; rfl)⟩))))) | (exact Or.inr (Or.inr (Or.inr (Or.inr (Or.inr (⟨by omega, by omega, by omega, by omega, by first | omega | (subst_vars; rfl)⟩)))))))⟩
    refine w_push kc_m1000000012 ?_
    refine w_retI rfl ?_
    exact ⟨rfl, (by first | (exact Or.inl ⟨by omega, by first | omega | (subst_vars; rfl)⟩) | (exact Or.inr (Or.inl ⟨by omega, by omega, by first | omega | (subst_vars; rfl)⟩)) | (exact Or.inr (Or.inr (Or.inl ⟨by omega, by omega, by omega, by first | omega | (subst_vars; rfl)⟩))) | (exact Or.inr (Or.inr (Or.inr (Or.inl ⟨by omega, by omega, by omega, by first | omega | (subst_vars; rfl)⟩)))) | (exact Or.inr (Or.inr (Or.inr (Or.inr (Or.inl ⟨by omega, by omega, by omega, by first | omega | (subst_vars; rfl)⟩))))) | (exact Or.inr (Or.inr (Or.inr (Or.inr (Or.inr (⟨by omega, by omega, by omega, by omega, by first | omega | (subst_vars; rfl)⟩)))))))⟩
  refine w_push kc_m1000000011 ?_
  refine w_retI rfl ?_
  exact ⟨rfl, (by first | (exact Or.inl ⟨by omega, by first | omega | (subst_vars; rfl)⟩) | (exact Or.inr (Or.inl ⟨by omega, by omega, by first | omega | (subst_vars; rfl)⟩)) | (exact Or.inr (Or.inr (Or.inl ⟨by omega, by omega, by omega, by first | omega | (subst_vars; rfl)⟩))) | (exact Or.inr (Or.inr (Or.inr (Or.inl ⟨by omega, by omega, by omega, by first | omega | (subst_vars; rfl)⟩)))) | (exact Or.inr (Or.inr (Or.inr (Or.inr (Or.inl ⟨by omega, by omega, by omega, by first | omega | (subst_vars; rfl)⟩))))) | (exact Or.inr (Or.inr (Or.inr (Or.inr (Or.inr (⟨by omega, by omega, by omega, by omega, by first | omega | (subst_vars; rfl)⟩)))))))⟩
