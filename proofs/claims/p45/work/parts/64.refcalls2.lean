theorem pour_wk {sz c v : Int} {rw w g h : Nat → Int} (hc : 0 ≤ c) (hn : ¬ (c < sz ∧ ¬ rw c.toNat = -1000000005)) (hv : v = w c.toNat) (hg : ∀ m : Nat, g m = if (m : Int) < c then prF sz rw w m else w m) (hh : ∀ m : Nat, h m = if m = c.toNat then v else g m) : ∀ m : Nat, h m = if (m : Int) < c + 1 then prF sz rw w m else w m := by
  refine pour_wn hc hn (fun m => ?_)
  rw [hh m]
  by_cases e : m = c.toNat
  · rw [if_pos e, hv, if_neg (by omega), e]
  · rw [if_neg e, hg m]
theorem pour_end {sz c : Int} {rw w : Nat → Int} {m : Nat} (hc : c = sz) : (if (m : Int) < c then prF sz rw w m else w m) = prF sz rw w m := by
  split
  · rfl
  · unfold prF
    rw [if_neg (by omega)]
set_option maxRecDepth 100000 in
set_option maxHeartbeats 4000000 in
theorem c_X9_trim {d : Nat} {t : TS} {n : Int}  (ok : OK t) (q0 : -2147483648 ≤ n) (q1 : n ≤ 2147483647) : CI (EX FU (d + 2)) 188 [.ref 68, .int (jI n)] (mk t) (fun z t' => OK t' ∧ Fr [(68, 9)] t t' ∧ (((¬ (0 ≤ n ∧ n ≤ tI t 68 9)) ∧ z = (-1000000001) ∧ t' = t) ∨ ((0 ≤ n ∧ n ≤ tI t 68 9) ∧ z = n ∧ (t' = uI t 68 9 n)))) := by
  refine CI_ent (d := d + 1) (Bk := bX9_trim) (nL := 2) rfl rfl rfl (Nat.le_of_ble_eq_true rfl) ?_
  show Rn _ 1000000 0 [some (.ref 68), some (.int (jI n))] [] _ _
  have fr : Fr [(68, 9)] t t := Fr.rf _ _
  have hn0 := (ok.a (ax_69 nr_1)).1
  have hn1 := (ok.a (ax_69 nr_1)).2
  refine w_step rfl ?_
  refine w_iload rfl ?_
  refine w_push kc_0 ?_
  refine w_aload rfl ?_
  refine w_getI (g_68_9 _) fe_68_9 ok (fun z1 hz1 hl1 hh1 => ?_)
  refine w_callS3I rfl (c_X9_in ok (by omega) (by omega) (by omega) (by omega) (by omega) (by omega)) ?_
  rintro z2 t2 ⟨rfl, hp2_0⟩
  rcases hp2_0 with ⟨rfl, hp2_0⟩ | ⟨rfl, hp2_0⟩
  · skip
    refine w_ine (by omega) (fun h => absurd h (by omega)) (fun _ => ?_)
    refine w_push kc_m1000000001 ?_
    refine w_retI rfl ?_
    exact ⟨ok, fr, (by first | (exact Or.inl ⟨by omega, by first | omega | (subst_vars; rfl), rfl⟩) | (exact Or.inr (⟨by omega, by first | omega | (subst_vars; rfl), by assumption⟩)))⟩
  refine w_ine (by omega) (fun _ => ?_) (fun h => absurd (by omega) h)
  refine w_step rfl ?_
  refine w_aload rfl ?_
  refine w_iload rfl ?_
  refine w_putI (p_68_9 _) fe_68_9 ok (by omega) (fun t3 ht3 ok3 => ?_)
  have fr3 := fr.uI ht3 (by simp)
  refine w_iload rfl ?_
  refine w_retI rfl ?_
  exact ⟨ok3, fr3, (by first | (exact Or.inl ⟨by omega, by first | omega | (subst_vars; rfl), rfl⟩) | (exact Or.inr (⟨by omega, by first | omega | (subst_vars; rfl), by assumption⟩)))⟩
set_option maxRecDepth 100000 in
set_option maxHeartbeats 4000000 in
theorem c_X9_sheet {d : Nat} {t : TS} {k s n : Int}  (ok : OK t) (q0 : -2147483648 ≤ k) (q1 : k ≤ 2147483647) (q2 : -2147483648 ≤ s) (q3 : s ≤ 2147483647) (q4 : -2147483648 ≤ n) (q5 : n ≤ 2147483647) : CI (EX FU (d + 3)) 208 [.ref 68, .int (jI k), .int (jI s), .int (jI n)] (mk t) (fun z t' => OK t' ∧ Fr [(83, 100), (84, 100), (85, 100)] t t' ∧ (((¬ (0 ≤ k ∧ k ≤ 3 ∧ -1 ≤ s ∧ s ≤ 1)) ∧ z = (-1000000001) ∧ t' = t) ∨ ((0 ≤ k ∧ k ≤ 3) ∧ (s = -1) ∧ z = 0 ∧ (∀ i, tA t' 83 i = if i = k.toNat then s else tA t 83 i) ∧ (∀ i, tA t' 84 i = if i = k.toNat then 0 else tA t 84 i) ∧ (∀ i : Nat, tA t' 85 i = if 24 * k ≤ (i : Int) ∧ (i : Int) < 24 * k + 24 then 0 else tA t 85 i)) ∨ ((0 ≤ k ∧ k ≤ 3) ∧ (0 ≤ s ∧ s ≤ 1) ∧ (24 < n) ∧ z = (-1000000001) ∧ t' = t) ∨ ((0 ≤ k ∧ k ≤ 3) ∧ (0 ≤ s ∧ s ≤ 1) ∧ (n < 0) ∧ z = (-1000000014) ∧ t' = t) ∨ ((0 ≤ k ∧ k ≤ 3) ∧ (0 ≤ s ∧ s ≤ 1) ∧ (0 ≤ n ∧ n ≤ 24) ∧ z = n ∧ (∀ i, tA t' 83 i = if i = k.toNat then s else tA t 83 i) ∧ (∀ i, tA t' 84 i = if i = k.toNat then n else tA t 84 i) ∧ (∀ i : Nat, tA t' 85 i = if 24 * k ≤ (i : Int) ∧ (i : Int) < 24 * k + 24 then 0 else tA t 85 i)))) := by
  refine CI_ent (d := d + 2) (Bk := bX9_sheet) (nL := 5) rfl rfl rfl (Nat.le_of_ble_eq_true rfl) ?_
  show Rn _ 1000000 0 [some (.ref 68), some (.int (jI k)), some (.int (jI s)), some (.int (jI n)), none] [] _ _
  have fr : Fr [(83, 100), (84, 100), (85, 100)] t t := Fr.rf _ _
  have hn0 := (ok.a (ax_69 nr_1)).1
  have hn1 := (ok.a (ax_69 nr_1)).2
  refine w_step rfl ?_
  refine w_iload rfl ?_
  refine w_callS1I rfl (c_X9_isSheet ok (by omega) (by omega)) ?_
  rintro z1 t1 ⟨rfl, hp1_0⟩
  rcases hp1_0 with ⟨rfl, hp1_0⟩ | ⟨rfl, hp1_0⟩
  · skip
    refine w_ieq (by omega) (fun _ => ?_) (fun h => absurd (by omega) h)
    refine w_step rfl ?_
    refine w_push kc_m1000000001 ?_
    refine w_retI rfl ?_
    exact ⟨ok, fr, (by first | (exact Or.inl ⟨by omega, by first | omega | (subst_vars; rfl), rfl⟩) | (exact Or.inr (Or.inl ⟨by omega, by omega, by first | omega | (have h9 := i6_2 84 k.toNat (by decide); rw [w2, tA_uA, if_pos ⟨rfl, rfl⟩] at h9; omega), by intro i; rw [i6_2 83 i (by decide), w2, tA_uA, if_neg (by omega), w1, tA_uA]; simp, by intro i; rw [i6_2 84 i (by decide), w2, tA_uA, w1, tA_uA]; simp, by intro i; rw [i6_3 i, show m = 24 by omega]⟩)) | (exact Or.inr (Or.inr (Or.inl ⟨by omega, by omega, by omega, by first | omega | (subst_vars; rfl), rfl⟩))) | (exact Or.inr (Or.inr (Or.inr (Or.inl ⟨by omega, by omega, by omega, by first | omega | (subst_vars; rfl), rfl⟩)))) | (exact Or.inr (Or.inr (Or.inr (Or.inr (⟨by omega, by omega, by omega, by first | omega | (have h9 := i6_2 84 k.toNat (by decide); rw [w2, tA_uA, if_pos ⟨rfl, rfl⟩] at h9; omega), by intro i; rw [i6_2 83 i (by decide), w2, tA_uA, if_neg (by omega), w1, tA_uA]; simp, by intro i; rw [i6_2 84 i (by decide), w2, tA_uA, w1, tA_uA]; simp, by intro i; rw [i6_3 i, show m = 24 by omega]⟩))))))⟩
  refine w_ieq (by omega) (fun h => absurd h (by omega)) (fun _ => ?_)
  refine w_iload rfl ?_
  refine w_push kc_m1 ?_
  refine w_push kc_1 ?_
  refine w_callS3I rfl (c_X9_in ok (by omega) (by omega) (by omega) (by omega) (by omega) (by omega)) ?_
  rintro z2 t2 ⟨rfl, hp2_0⟩
  rcases hp2_0 with ⟨rfl, hp2_0⟩ | ⟨rfl, hp2_0⟩
  · skip
    refine w_ieq (by omega) (fun _ => ?_) (fun h => absurd (by omega) h)
    refine w_step rfl ?_
    refine w_push kc_m1000000001 ?_
    refine w_retI rfl ?_
    exact ⟨ok, fr, (by first | (exact Or.inl ⟨by omega, by first | omega | (subst_vars; rfl), rfl⟩) | (exact Or.inr (Or.inl ⟨by omega, by omega, by first | omega | (have h9 := i6_2 84 k.toNat (by decide); rw [w2, tA_uA, if_pos ⟨rfl, rfl⟩] at h9; omega), by intro i; rw [i6_2 83 i (by decide), w2, tA_uA, if_neg (by omega), w1, tA_uA]; simp, by intro i; rw [i6_2 84 i (by decide), w2, tA_uA, w1, tA_uA]; simp, by intro i; rw [i6_3 i, show m = 24 by omega]⟩)) | (exact Or.inr (Or.inr (Or.inl ⟨by omega, by omega, by omega, by first | omega | (subst_vars; rfl), rfl⟩))) | (exact Or.inr (Or.inr (Or.inr (Or.inl ⟨by omega, by omega, by omega, by first | omega | (subst_vars; rfl), rfl⟩)))) | (exact Or.inr (Or.inr (Or.inr (Or.inr (⟨by omega, by omega, by omega, by first | omega | (have h9 := i6_2 84 k.toNat (by decide); rw [w2, tA_uA, if_pos ⟨rfl, rfl⟩] at h9; omega), by intro i; rw [i6_2 83 i (by decide), w2, tA_uA, if_neg (by omega), w1, tA_uA]; simp, by intro i; rw [i6_2 84 i (by decide), w2, tA_uA, w1, tA_uA]; simp, by intro i; rw [i6_3 i, show m = 24 by omega]⟩))))))⟩
  refine w_ieq (by omega) (fun h => absurd h (by omega)) (fun _ => ?_)
  refine w_iload rfl ?_
  refine w_ilt (by omega) (fun h3 => ?_) (fun h3 => ?_)
  · skip
    refine w_step rfl ?_
    refine w_iload rfl ?_
    refine w_ilt (by omega) (fun _ => ?_) (fun h => absurd (by omega) h)
    refine w_step rfl ?_
    refine w_aload rfl ?_
    refine w_getR (g_68_26 _) ?_
    refine w_iload rfl ?_
    refine w_iload rfl ?_
    refine w_iast (i := (k).toNat) (ai_83 _) rfl (by omega) (by omega) (ae_83 _) ok (by omega) (fun t4 ht4 ok4 => ?_)
    have fr4 := fr.uA ht4 (by simp)
    have w1 := ht4
    refine w_aload rfl ?_
    refine w_getR (g_68_27 _) ?_
    refine w_iload rfl ?_
    refine w_iload rfl ?_
    refine w_ige (by omega) (fun h => absurd h (by omega)) (fun _ => ?_)
    refine w_push kc_0 ?_
    refine w_goto ?_
    refine w_step rfl ?_
    refine w_iast (i := (k).toNat) (ai_84 _) rfl (by omega) (by omega) (ae_84 _) ok4 (by omega) (fun t5 ht5 ok5 => ?_)
    have fr5 := fr4.uA ht5 (by simp)
    have w2 := ht5
    refine w_push kc_0 ?_
    refine w_istore (lv' := [some (.ref 68), some (.int (jI k)), some (.int (jI s)), some (.int (jI n)), some (.int (jI 0))]) rfl ?_
    refine w_goto ?_
    have key6 : ∀ (n6 M6 : Nat) (m : Int) (t6 : TS), OK t6 → Fr [(83, 100), (84, 100), (85, 100)] t t6 → (0 ≤ m) → (m ≤ 24) → (∀ c i, ¬ c = 85 → tA t6 c i = tA t5 c i) → (∀ i : Nat, tA t6 85 i = if 24 * k ≤ (i : Int) ∧ (i : Int) < 24 * k + m then 0 else tA t 85 i) → 24 - m < (n6 : Int) → 60 * n6 + (1000) ≤ M6 → Rn (bX9_sheet (EX FU (d + 2))) M6 6 [some (.ref 68), some (.int (jI k)), some (.int (jI s)), some (.int (jI n)), some (.int (jI m))] [] (mk t6) (PI (fun z t' => OK t' ∧ Fr [(83, 100), (84, 100), (85, 100)] t t' ∧ (((¬ (0 ≤ k ∧ k ≤ 3 ∧ -1 ≤ s ∧ s ≤ 1)) ∧ z = (-1000000001) ∧ t' = t) ∨ ((0 ≤ k ∧ k ≤ 3) ∧ (s = -1) ∧ z = 0 ∧ (∀ i, tA t' 83 i = if i = k.toNat then s else tA t 83 i) ∧ (∀ i, tA t' 84 i = if i = k.toNat then 0 else tA t 84 i) ∧ (∀ i : Nat, tA t' 85 i = if 24 * k ≤ (i : Int) ∧ (i : Int) < 24 * k + 24 then 0 else tA t 85 i)) ∨ ((0 ≤ k ∧ k ≤ 3) ∧ (0 ≤ s ∧ s ≤ 1) ∧ (24 < n) ∧ z = (-1000000001) ∧ t' = t) ∨ ((0 ≤ k ∧ k ≤ 3) ∧ (0 ≤ s ∧ s ≤ 1) ∧ (n < 0) ∧ z = (-1000000014) ∧ t' = t) ∨ ((0 ≤ k ∧ k ≤ 3) ∧ (0 ≤ s ∧ s ≤ 1) ∧ (0 ≤ n ∧ n ≤ 24) ∧ z = n ∧ (∀ i, tA t' 83 i = if i = k.toNat then s else tA t 83 i) ∧ (∀ i, tA t' 84 i = if i = k.toNat then n else tA t 84 i) ∧ (∀ i : Nat, tA t' 85 i = if 24 * k ≤ (i : Int) ∧ (i : Int) < 24 * k + 24 then 0 else tA t 85 i))))) := by
      intro n6
      induction n6 with
      | zero => intro M6 m t6 ok6 fr6 i6_0 i6_1 i6_2 i6_3 v6 f6; exfalso; omega
      | succ n6 ih6 =>
        intro M6 m t6 ok6 fr6 i6_0 i6_1 i6_2 i6_3 v6 f6
        obtain ⟨M6, rfl⟩ : ∃ m, M6 = m + 60 := ⟨M6 - 60, by omega⟩
        refine w_step rfl ?_
        refine w_iload rfl ?_
        refine w_push kc_24 ?_
        refine w_cge (by omega) (fun h7 => ?_) (fun h7 => ?_)
        · skip
          refine w_step rfl ?_
          refine w_aload rfl ?_
          refine w_getR (g_68_27 _) ?_
          refine w_iload rfl ?_
          refine w_iald (i := (k).toNat) (ai_84 _) (by omega) (by omega) (ae_84 _) ok6 (fun z8 hz8 hl8 hh8 => ?_)
          refine w_retI rfl ?_
          exact ⟨ok6, fr6, (by first | (exact Or.inl ⟨by omega, by first | omega | (subst_vars; rfl), rfl⟩) | (exact Or.inr (Or.inl ⟨by omega, by omega, by first | omega | (have h9 := i6_2 84 k.toNat (by decide); rw [w2, tA_uA, if_pos ⟨rfl, rfl⟩] at h9; omega), by intro i; rw [i6_2 83 i (by decide), w2, tA_uA, if_neg (by omega), w1, tA_uA]; simp, by intro i; rw [i6_2 84 i (by decide), w2, tA_uA, w1, tA_uA]; simp, by intro i; rw [i6_3 i, show m = 24 by omega]⟩)) | (exact Or.inr (Or.inr (Or.inl ⟨by omega, by omega, by omega, by first | omega | (subst_vars; rfl), rfl⟩))) | (exact Or.inr (Or.inr (Or.inr (Or.inl ⟨by omega, by omega, by omega, by first | omega | (subst_vars; rfl), rfl⟩)))) | (exact Or.inr (Or.inr (Or.inr (Or.inr (⟨by omega, by omega, by omega, by first | omega | (have h9 := i6_2 84 k.toNat (by decide); rw [w2, tA_uA, if_pos ⟨rfl, rfl⟩] at h9; omega), by intro i; rw [i6_2 83 i (by decide), w2, tA_uA, if_neg (by omega), w1, tA_uA]; simp, by intro i; rw [i6_2 84 i (by decide), w2, tA_uA, w1, tA_uA]; simp, by intro i; rw [i6_3 i, show m = 24 by omega]⟩))))))⟩
        refine w_aload rfl ?_
        refine w_getR (g_68_28 _) ?_
        refine w_push kc_24 ?_
        refine w_iload rfl ?_
        refine w_mul ?_
        refine w_iload rfl ?_
        refine w_add ?_
        refine w_push kc_0 ?_
        refine w_iast (i := (((24 * k) + m)).toNat) (ai_85 _) rfl (by omega) (by omega) (ae_85 _) ok6 (by omega) (fun t9 ht9 ok9 => ?_)
        have fr9 := fr6.uA ht9 (by simp)
        have w3 := ht9
        refine w_iinc (lv' := [some (.ref 68), some (.int (jI k)), some (.int (jI s)), some (.int (jI n)), some (.int (jI (m + 1)))]) kc_1 rfl rfl ?_
        refine w_goto ?_
        exact ih6 _ (m + 1) t9 ok9 fr9 (by omega) (by omega) (by intro c i hc; rw [w3, tA_uA, if_neg (fun q => hc q.1)]; exact i6_2 c i hc) (deal_step (F := fun _ => 0) (n := 24 * k) (i := m) (by omega) i6_0 rfl i6_3 (by intro i; rw [w3, tA_uA]; simp) rfl) (by omega) (by omega)
    exact key6 25 _ 0 t5 ok5 fr5 (by omega) (by omega) (fun _ _ _ => rfl) (by intro i; rw [if_neg (by omega), w2, tA_uA, if_neg (by omega), w1, tA_uA, if_neg (by omega)]) (by omega) (by omega)
  refine w_iload rfl ?_
  refine w_push kc_24 ?_
  refine w_cle (by omega) (fun h10 => ?_) (fun h10 => ?_)
  · skip
    refine w_step rfl ?_
    refine w_iload rfl ?_
    refine w_ilt (by omega) (fun h => absurd h (by omega)) (fun _ => ?_)
    refine w_iload rfl ?_
    refine w_ige (by omega) (fun h11 => ?_) (fun h11 => ?_)
    · skip
      refine w_step rfl ?_
      refine w_aload rfl ?_
      refine w_getR (g_68_26 _) ?_
      refine w_iload rfl ?_
      refine w_iload rfl ?_
      refine w_iast (i := (k).toNat) (ai_83 _) rfl (by omega) (by omega) (ae_83 _) ok (by omega) (fun t12 ht12 ok12 => ?_)
      have fr12 := fr.uA ht12 (by simp)
      have w1 := ht12
      refine w_aload rfl ?_
      refine w_getR (g_68_27 _) ?_
      refine w_iload rfl ?_
      refine w_iload rfl ?_
      refine w_ige (by omega) (fun _ => ?_) (fun h => absurd (by omega) h)
      refine w_step rfl ?_
      refine w_iload rfl ?_
      refine w_goto ?_
      refine w_step rfl ?_
      refine w_iast (i := (k).toNat) (ai_84 _) rfl (by omega) (by omega) (ae_84 _) ok12 (by omega) (fun t13 ht13 ok13 => ?_)
      have fr13 := fr12.uA ht13 (by simp)
      have w2 := ht13
      refine w_push kc_0 ?_
      refine w_istore (lv' := [some (.ref 68), some (.int (jI k)), some (.int (jI s)), some (.int (jI n)), some (.int (jI 0))]) rfl ?_
      refine w_goto ?_
      have key6 : ∀ (n6 M6 : Nat) (m : Int) (t14 : TS), OK t14 → Fr [(83, 100), (84, 100), (85, 100)] t t14 → (0 ≤ m) → (m ≤ 24) → (∀ c i, ¬ c = 85 → tA t14 c i = tA t13 c i) → (∀ i : Nat, tA t14 85 i = if 24 * k ≤ (i : Int) ∧ (i : Int) < 24 * k + m then 0 else tA t 85 i) → 24 - m < (n6 : Int) → 60 * n6 + (1000) ≤ M6 → Rn (bX9_sheet (EX FU (d + 2))) M6 6 [some (.ref 68), some (.int (jI k)), some (.int (jI s)), some (.int (jI n)), some (.int (jI m))] [] (mk t14) (PI (fun z t' => OK t' ∧ Fr [(83, 100), (84, 100), (85, 100)] t t' ∧ (((¬ (0 ≤ k ∧ k ≤ 3 ∧ -1 ≤ s ∧ s ≤ 1)) ∧ z = (-1000000001) ∧ t' = t) ∨ ((0 ≤ k ∧ k ≤ 3) ∧ (s = -1) ∧ z = 0 ∧ (∀ i, tA t' 83 i = if i = k.toNat then s else tA t 83 i) ∧ (∀ i, tA t' 84 i = if i = k.toNat then 0 else tA t 84 i) ∧ (∀ i : Nat, tA t' 85 i = if 24 * k ≤ (i : Int) ∧ (i : Int) < 24 * k + 24 then 0 else tA t 85 i)) ∨ ((0 ≤ k ∧ k ≤ 3) ∧ (0 ≤ s ∧ s ≤ 1) ∧ (24 < n) ∧ z = (-1000000001) ∧ t' = t) ∨ ((0 ≤ k ∧ k ≤ 3) ∧ (0 ≤ s ∧ s ≤ 1) ∧ (n < 0) ∧ z = (-1000000014) ∧ t' = t) ∨ ((0 ≤ k ∧ k ≤ 3) ∧ (0 ≤ s ∧ s ≤ 1) ∧ (0 ≤ n ∧ n ≤ 24) ∧ z = n ∧ (∀ i, tA t' 83 i = if i = k.toNat then s else tA t 83 i) ∧ (∀ i, tA t' 84 i = if i = k.toNat then n else tA t 84 i) ∧ (∀ i : Nat, tA t' 85 i = if 24 * k ≤ (i : Int) ∧ (i : Int) < 24 * k + 24 then 0 else tA t 85 i))))) := by
        intro n6
        induction n6 with
        | zero => intro M6 m t14 ok14 fr14 i6_0 i6_1 i6_2 i6_3 v6 f6; exfalso; omega
        | succ n6 ih6 =>
          intro M6 m t14 ok14 fr14 i6_0 i6_1 i6_2 i6_3 v6 f6
          obtain ⟨M6, rfl⟩ : ∃ m, M6 = m + 60 := ⟨M6 - 60, by omega⟩
          refine w_step rfl ?_
          refine w_iload rfl ?_
          refine w_push kc_24 ?_
          refine w_cge (by omega) (fun h15 => ?_) (fun h15 => ?_)
          · skip
            refine w_step rfl ?_
            refine w_aload rfl ?_
            refine w_getR (g_68_27 _) ?_
            refine w_iload rfl ?_
            refine w_iald (i := (k).toNat) (ai_84 _) (by omega) (by omega) (ae_84 _) ok14 (fun z16 hz16 hl16 hh16 => ?_)
            refine w_retI rfl ?_
            exact ⟨ok14, fr14, (by first | (exact Or.inl ⟨by omega, by first | omega | (subst_vars; rfl), rfl⟩) | (exact Or.inr (Or.inl ⟨by omega, by omega, by first | omega | (have h9 := i6_2 84 k.toNat (by decide); rw [w2, tA_uA, if_pos ⟨rfl, rfl⟩] at h9; omega), by intro i; rw [i6_2 83 i (by decide), w2, tA_uA, if_neg (by omega), w1, tA_uA]; simp, by intro i; rw [i6_2 84 i (by decide), w2, tA_uA, w1, tA_uA]; simp, by intro i; rw [i6_3 i, show m = 24 by omega]⟩)) | (exact Or.inr (Or.inr (Or.inl ⟨by omega, by omega, by omega, by first | omega | (subst_vars; rfl), rfl⟩))) | (exact Or.inr (Or.inr (Or.inr (Or.inl ⟨by omega, by omega, by omega, by first | omega | (subst_vars; rfl), rfl⟩)))) | (exact Or.inr (Or.inr (Or.inr (Or.inr (⟨by omega, by omega, by omega, by first | omega | (have h9 := i6_2 84 k.toNat (by decide); rw [w2, tA_uA, if_pos ⟨rfl, rfl⟩] at h9; omega), by intro i; rw [i6_2 83 i (by decide), w2, tA_uA, if_neg (by omega), w1, tA_uA]; simp, by intro i; rw [i6_2 84 i (by decide), w2, tA_uA, w1, tA_uA]; simp, by intro i; rw [i6_3 i, show m = 24 by omega]⟩))))))⟩
          refine w_aload rfl ?_
          refine w_getR (g_68_28 _) ?_
          refine w_push kc_24 ?_
          refine w_iload rfl ?_
          refine w_mul ?_
          refine w_iload rfl ?_
          refine w_add ?_
          refine w_push kc_0 ?_
          refine w_iast (i := (((24 * k) + m)).toNat) (ai_85 _) rfl (by omega) (by omega) (ae_85 _) ok14 (by omega) (fun t17 ht17 ok17 => ?_)
          have fr17 := fr14.uA ht17 (by simp)
          have w3 := ht17
          refine w_iinc (lv' := [some (.ref 68), some (.int (jI k)), some (.int (jI s)), some (.int (jI n)), some (.int (jI (m + 1)))]) kc_1 rfl rfl ?_
          refine w_goto ?_
          exact ih6 _ (m + 1) t17 ok17 fr17 (by omega) (by omega) (by intro c i hc; rw [w3, tA_uA, if_neg (fun q => hc q.1)]; exact i6_2 c i hc) (deal_step (F := fun _ => 0) (n := 24 * k) (i := m) (by omega) i6_0 rfl i6_3 (by intro i; rw [w3, tA_uA]; simp) rfl) (by omega) (by omega)
      exact key6 25 _ 0 t13 ok13 fr13 (by omega) (by omega) (fun _ _ _ => rfl) (by intro i; rw [if_neg (by omega), w2, tA_uA, if_neg (by omega), w1, tA_uA, if_neg (by omega)]) (by omega) (by omega)
    refine w_push kc_m1000000014 ?_
    refine w_retI rfl ?_
    exact ⟨ok, fr, (by first | (exact Or.inl ⟨by omega, by first | omega | (subst_vars; rfl), rfl⟩) | (exact Or.inr (Or.inl ⟨by omega, by omega, by first | omega | (have h9 := i6_2 84 k.toNat (by decide); rw [w2, tA_uA, if_pos ⟨rfl, rfl⟩] at h9; omega), by intro i; rw [i6_2 83 i (by decide), w2, tA_uA, if_neg (by omega), w1, tA_uA]; simp, by intro i; rw [i6_2 84 i (by decide), w2, tA_uA, w1, tA_uA]; simp, by intro i; rw [i6_3 i, show m = 24 by omega]⟩)) | (exact Or.inr (Or.inr (Or.inl ⟨by omega, by omega, by omega, by first | omega | (subst_vars; rfl), rfl⟩))) | (exact Or.inr (Or.inr (Or.inr (Or.inl ⟨by omega, by omega, by omega, by first | omega | (subst_vars; rfl), rfl⟩)))) | (exact Or.inr (Or.inr (Or.inr (Or.inr (⟨by omega, by omega, by omega, by first | omega | (have h9 := i6_2 84 k.toNat (by decide); rw [w2, tA_uA, if_pos ⟨rfl, rfl⟩] at h9; omega), by intro i; rw [i6_2 83 i (by decide), w2, tA_uA, if_neg (by omega), w1, tA_uA]; simp, by intro i; rw [i6_2 84 i (by decide), w2, tA_uA, w1, tA_uA]; simp, by intro i; rw [i6_3 i, show m = 24 by omega]⟩))))))⟩
  refine w_goto ?_
  refine w_step rfl ?_
  refine w_push kc_m1000000001 ?_
  refine w_retI rfl ?_
  exact ⟨ok, fr, (by first | (exact Or.inl ⟨by omega, by first | omega | (subst_vars; rfl), rfl⟩) | (exact Or.inr (Or.inl ⟨by omega, by omega, by first | omega | (have h9 := i6_2 84 k.toNat (by decide); rw [w2, tA_uA, if_pos ⟨rfl, rfl⟩] at h9; omega), by intro i; rw [i6_2 83 i (by decide), w2, tA_uA, if_neg (by omega), w1, tA_uA]; simp, by intro i; rw [i6_2 84 i (by decide), w2, tA_uA, w1, tA_uA]; simp, by intro i; rw [i6_3 i, show m = 24 by omega]⟩)) | (exact Or.inr (Or.inr (Or.inl ⟨by omega, by omega, by omega, by first | omega | (subst_vars; rfl), rfl⟩))) | (exact Or.inr (Or.inr (Or.inr (Or.inl ⟨by omega, by omega, by omega, by first | omega | (subst_vars; rfl), rfl⟩)))) | (exact Or.inr (Or.inr (Or.inr (Or.inr (⟨by omega, by omega, by omega, by first | omega | (have h9 := i6_2 84 k.toNat (by decide); rw [w2, tA_uA, if_pos ⟨rfl, rfl⟩] at h9; omega), by intro i; rw [i6_2 83 i (by decide), w2, tA_uA, if_neg (by omega), w1, tA_uA]; simp, by intro i; rw [i6_2 84 i (by decide), w2, tA_uA, w1, tA_uA]; simp, by intro i; rw [i6_3 i, show m = 24 by omega]⟩))))))⟩
set_option maxRecDepth 100000 in
set_option maxHeartbeats 4000000 in
theorem c_X9_mark {d : Nat} {t : TS} {k p v : Int}  (ok : OK t) (q0 : -2147483648 ≤ k) (q1 : k ≤ 2147483647) (q2 : -2147483648 ≤ p) (q3 : p ≤ 2147483647) (q4 : -2147483648 ≤ v) (q5 : v ≤ 2147483647) : CI (EX FU (d + 3)) 209 [.ref 68, .int (jI k), .int (jI p), .int (jI v)] (mk t) (fun z t' => OK t' ∧ Fr [(85, 100)] t t' ∧ (((¬ (0 ≤ k ∧ k ≤ 3)) ∧ z = (-1000000001) ∧ t' = t) ∨ ((0 ≤ k ∧ k ≤ 3) ∧ (tA t 83 k.toNat = -1) ∧ z = (-1000000011) ∧ t' = t) ∨ ((0 ≤ k ∧ k ≤ 3) ∧ (¬ tA t 83 k.toNat = -1) ∧ (¬ (0 ≤ p ∧ p ≤ tA t 84 k.toNat - 1)) ∧ z = (-1000000013) ∧ t' = t) ∨ ((0 ≤ k ∧ k ≤ 3) ∧ (tA t 83 k.toNat = 0) ∧ (0 ≤ p ∧ p ≤ tA t 84 k.toNat - 1) ∧ (v = (-1000000005)) ∧ z = (-1000000012) ∧ t' = t) ∨ ((0 ≤ k ∧ k ≤ 3) ∧ (tA t 83 k.toNat = 0) ∧ (0 ≤ p ∧ p ≤ tA t 84 k.toNat - 1) ∧ (¬ v = (-1000000005)) ∧ z = 1 ∧ (t' = uA t 85 (24 * k + p).toNat (shF v))) ∨ ((0 ≤ k ∧ k ≤ 3) ∧ (tA t 83 k.toNat = 1) ∧ (0 ≤ p ∧ p ≤ tA t 84 k.toNat - 1) ∧ (¬ v = (-1000000005)) ∧ (¬ (-99999 ≤ v ∧ v ≤ 99999)) ∧ z = (-1000000001) ∧ t' = t) ∨ ((0 ≤ k ∧ k ≤ 3) ∧ (tA t 83 k.toNat = 1) ∧ (0 ≤ p ∧ p ≤ tA t 84 k.toNat - 1) ∧ (v = (-1000000005) ∨ (-99999 ≤ v ∧ v ≤ 99999)) ∧ z = 1 ∧ (t' = uA t 85 (24 * k + p).toNat v)))) := by
  refine CI_ent (d := d + 2) (Bk := bX9_mark) (nL := 4) rfl rfl rfl (Nat.le_of_ble_eq_true rfl) ?_
  show Rn _ 1000000 0 [some (.ref 68), some (.int (jI k)), some (.int (jI p)), some (.int (jI v))] [] _ _
  have fr : Fr [(85, 100)] t t := Fr.rf _ _
  have hn0 := (ok.a (ax_69 nr_1)).1
  have hn1 := (ok.a (ax_69 nr_1)).2
  refine w_step rfl ?_
  refine w_iload rfl ?_
  refine w_callS1I rfl (c_X9_isSheet ok (by omega) (by omega)) ?_
  rintro z1 t1 ⟨rfl, hp1_0⟩
  rcases hp1_0 with ⟨rfl, hp1_0⟩ | ⟨rfl, hp1_0⟩
  · skip
    refine w_ine (by omega) (fun h => absurd h (by omega)) (fun _ => ?_)
    refine w_push kc_m1000000001 ?_
    refine w_retI rfl ?_
    exact ⟨ok, fr, (by first | (exact Or.inl ⟨by omega, by first | omega | (subst_vars; rfl), rfl⟩) | (exact Or.inr (Or.inl ⟨by omega, by omega, by first | omega | (subst_vars; rfl), rfl⟩)) | (exact Or.inr (Or.inr (Or.inl ⟨by omega, by omega, by omega, by first | omega | (subst_vars; rfl), rfl⟩))) | (exact Or.inr (Or.inr (Or.inr (Or.inl ⟨by omega, by omega, by omega, by omega, by first | omega | (subst_vars; rfl), rfl⟩)))) | (exact Or.inr (Or.inr (Or.inr (Or.inr (Or.inl ⟨by omega, by omega, by omega, by omega, by first | omega | (subst_vars; rfl), by subst_vars; rfl⟩))))) | (exact Or.inr (Or.inr (Or.inr (Or.inr (Or.inr (Or.inl ⟨by omega, by omega, by omega, by omega, by omega, by first | omega | (subst_vars; rfl), rfl⟩)))))) | (exact Or.inr (Or.inr (Or.inr (Or.inr (Or.inr (Or.inr (⟨by omega, by omega, by omega, by omega, by first | omega | (subst_vars; rfl), by subst_vars; rfl⟩))))))))⟩
  refine w_ine (by omega) (fun _ => ?_) (fun h => absurd (by omega) h)
  refine w_step rfl ?_
  refine w_aload rfl ?_
  refine w_getR (g_68_26 _) ?_
  refine w_iload rfl ?_
  refine w_iald (i := (k).toNat) (ai_83 _) (by omega) (by omega) (ae_83 _) ok (fun z2 hz2 hl2 hh2 => ?_)
  refine w_ige (by omega) (fun h3 => ?_) (fun h3 => ?_)
  · skip
    refine w_step rfl ?_
    refine w_iload rfl ?_
    refine w_push kc_0 ?_
    refine w_aload rfl ?_
    refine w_getR (g_68_27 _) ?_
    refine w_iload rfl ?_
    refine w_iald (i := (k).toNat) (ai_84 _) (by omega) (by omega) (ae_84 _) ok (fun z4 hz4 hl4 hh4 => ?_)
    refine w_push kc_1 ?_
    refine w_sub ?_
    refine w_callS3I rfl (c_X9_in ok (by omega) (by omega) (by omega) (by omega) (by omega) (by omega)) ?_
    rintro z5 t5 ⟨rfl, hp5_0⟩
    rcases hp5_0 with ⟨rfl, hp5_0⟩ | ⟨rfl, hp5_0⟩
    · skip
      refine w_ine (by omega) (fun h => absurd h (by omega)) (fun _ => ?_)
      refine w_push kc_m1000000013 ?_
      refine w_retI rfl ?_
      exact ⟨ok, fr, (by first | (exact Or.inl ⟨by omega, by first | omega | (subst_vars; rfl), rfl⟩) | (exact Or.inr (Or.inl ⟨by omega, by omega, by first | omega | (subst_vars; rfl), rfl⟩)) | (exact Or.inr (Or.inr (Or.inl ⟨by omega, by omega, by omega, by first | omega | (subst_vars; rfl), rfl⟩))) | (exact Or.inr (Or.inr (Or.inr (Or.inl ⟨by omega, by omega, by omega, by omega, by first | omega | (subst_vars; rfl), rfl⟩)))) | (exact Or.inr (Or.inr (Or.inr (Or.inr (Or.inl ⟨by omega, by omega, by omega, by omega, by first | omega | (subst_vars; rfl), by subst_vars; rfl⟩))))) | (exact Or.inr (Or.inr (Or.inr (Or.inr (Or.inr (Or.inl ⟨by omega, by omega, by omega, by omega, by omega, by first | omega | (subst_vars; rfl), rfl⟩)))))) | (exact Or.inr (Or.inr (Or.inr (Or.inr (Or.inr (Or.inr (⟨by omega, by omega, by omega, by omega, by first | omega | (subst_vars; rfl), by subst_vars; rfl⟩))))))))⟩
    refine w_ine (by omega) (fun _ => ?_) (fun h => absurd (by omega) h)
    refine w_step rfl ?_
    refine w_aload rfl ?_
    refine w_getR (g_68_26 _) ?_
    refine w_iload rfl ?_
    refine w_iald (i := (k).toNat) (ai_83 _) (by omega) (by omega) (ae_83 _) ok (fun z6 hz6 hl6 hh6 => ?_)
    refine w_ine (by omega) (fun h7 => ?_) (fun h7 => ?_)
    · skip
      refine w_step rfl ?_
      refine w_aload rfl ?_
      refine w_getR (g_68_26 _) ?_
      refine w_iload rfl ?_
      refine w_iald (i := (k).toNat) (ai_83 _) (by omega) (by omega) (ae_83 _) ok (fun z8 hz8 hl8 hh8 => ?_)
      refine w_push kc_1 ?_
      refine w_cne (by omega) (fun h9 => ?_) (fun h9 => ?_)
      · skip
        refine w_step rfl ?_
        refine w_aload rfl ?_
        refine w_getR (g_68_28 _) ?_
        refine w_push kc_24 ?_
        refine w_iload rfl ?_
        refine w_mul ?_
        refine w_iload rfl ?_
        refine w_add ?_
        refine w_aload rfl ?_
        refine w_getR (g_68_26 _) ?_
        refine w_iload rfl ?_
        refine w_iald (i := (k).toNat) (ai_83 _) (by omega) (by omega) (ae_83 _) ok (fun z10 hz10 hl10 hh10 => ?_)
        refine w_ine (by omega) (fun h11 => ?_) (fun h11 => ?_)
        · skip
          refine w_step rfl ?_
          refine w_iload rfl ?_
          refine w_goto ?_
          refine w_step rfl ?_
          refine w_iast (i := (((24 * k) + p)).toNat) (ai_85 _) rfl (by omega) (by omega) (ae_85 _) ok (by omega) (fun t12 ht12 ok12 => ?_)
          have fr12 := fr.uA ht12 (by simp)
          refine w_push kc_1 ?_
          refine w_retI rfl ?_
          exact ⟨ok12, fr12, (by first | (exact Or.inl ⟨by omega, by first | omega | (subst_vars; rfl), rfl⟩) | (exact Or.inr (Or.inl ⟨by omega, by omega, by first | omega | (subst_vars; rfl), rfl⟩)) | (exact Or.inr (Or.inr (Or.inl ⟨by omega, by omega, by omega, by first | omega | (subst_vars; rfl), rfl⟩))) | (exact Or.inr (Or.inr (Or.inr (Or.inl ⟨by omega, by omega, by omega, by omega, by first | omega | (subst_vars; rfl), rfl⟩)))) | (exact Or.inr (Or.inr (Or.inr (Or.inr (Or.inl ⟨by omega, by omega, by omega, by omega, by first | omega | (subst_vars; rfl), by subst_vars; rfl⟩))))) | (exact Or.inr (Or.inr (Or.inr (Or.inr (Or.inr (Or.inl ⟨by omega, by omega, by omega, by omega, by omega, by first | omega | (subst_vars; rfl), rfl⟩)))))) | (exact Or.inr (Or.inr (Or.inr (Or.inr (Or.inr (Or.inr (⟨by omega, by omega, by omega, by omega, by first | omega | (subst_vars; rfl), by subst_vars; rfl⟩))))))))⟩
        refine w_iload rfl ?_
        refine w_un (fun z13 hz13 hl13 hh13 => ?_)
        refine w_goto ?_
        refine w_step rfl ?_
        refine w_iast (i := (((24 * k) + p)).toNat) (ai_85 _) rfl (by omega) (by omega) (ae_85 _) ok (by omega) (fun t14 ht14 ok14 => ?_)
        have fr14 := fr.uA ht14 (by simp)
        refine w_push kc_1 ?_
        refine w_retI rfl ?_
        exact ⟨ok14, fr14, (by first | (exact Or.inl ⟨by omega, by first | omega | (subst_vars; rfl), rfl⟩) | (exact Or.inr (Or.inl ⟨by omega, by omega, by first | omega | (subst_vars; rfl), rfl⟩)) | (exact Or.inr (Or.inr (Or.inl ⟨by omega, by omega, by omega, by first | omega | (subst_vars; rfl), rfl⟩))) | (exact Or.inr (Or.inr (Or.inr (Or.inl ⟨by omega, by omega, by omega, by omega, by first | omega | (subst_vars; rfl), rfl⟩)))) | (exact Or.inr (Or.inr (Or.inr (Or.inr (Or.inl ⟨by omega, by omega, by omega, by omega, by first | omega | (subst_vars; rfl), by subst_vars; rfl⟩))))) | (exact Or.inr (Or.inr (Or.inr (Or.inr (Or.inr (Or.inl ⟨by omega, by omega, by omega, by omega, by omega, by first | omega | (subst_vars; rfl), rfl⟩)))))) | (exact Or.inr (Or.inr (Or.inr (Or.inr (Or.inr (Or.inr (⟨by omega, by omega, by omega, by omega, by first | omega | (subst_vars; rfl), by subst_vars; rfl⟩))))))))⟩
      refine w_iload rfl ?_
      refine w_push kc_m1000000005 ?_
      refine w_ceq (by omega) (fun h15 => ?_) (fun h15 => ?_)
      · skip
        refine w_step rfl ?_
        refine w_aload rfl ?_
        refine w_getR (g_68_28 _) ?_
        refine w_push kc_24 ?_
        refine w_iload rfl ?_
        refine w_mul ?_
        refine w_iload rfl ?_
        refine w_add ?_
        refine w_aload rfl ?_
        refine w_getR (g_68_26 _) ?_
        refine w_iload rfl ?_
        refine w_iald (i := (k).toNat) (ai_83 _) (by omega) (by omega) (ae_83 _) ok (fun z16 hz16 hl16 hh16 => ?_)
        refine w_ine (by omega) (fun h17 => ?_) (fun h17 => ?_)
        · skip
          refine w_step rfl ?_
          refine w_iload rfl ?_
          refine w_goto ?_
          refine w_step rfl ?_
          refine w_iast (i := (((24 * k) + p)).toNat) (ai_85 _) rfl (by omega) (by omega) (ae_85 _) ok (by omega) (fun t18 ht18 ok18 => ?_)
          have fr18 := fr.uA ht18 (by simp)
          refine w_push kc_1 ?_
          refine w_retI rfl ?_
          exact ⟨ok18, fr18, (by first | (exact Or.inl ⟨by omega, by first | omega | (subst_vars; rfl), rfl⟩) | (exact Or.inr (Or.inl ⟨by omega, by omega, by first | omega | (subst_vars; rfl), rfl⟩)) | (exact Or.inr (Or.inr (Or.inl ⟨by omega, by omega, by omega, by first | omega | (subst_vars; rfl), rfl⟩))) | (exact Or.inr (Or.inr (Or.inr (Or.inl ⟨by omega, by omega, by omega, by omega, by first | omega | (subst_vars; rfl), rfl⟩)))) | (exact Or.inr (Or.inr (Or.inr (Or.inr (Or.inl ⟨by omega, by omega, by omega, by omega, by first | omega | (subst_vars; rfl), by subst_vars; rfl⟩))))) | (exact Or.inr (Or.inr (Or.inr (Or.inr (Or.inr (Or.inl ⟨by omega, by omega, by omega, by omega, by omega, by first | omega | (subst_vars; rfl), rfl⟩)))))) | (exact Or.inr (Or.inr (Or.inr (Or.inr (Or.inr (Or.inr (⟨by omega, by omega, by omega, by omega, by first | omega | (subst_vars; rfl), by subst_vars; rfl⟩))))))))⟩
        refine w_iload rfl ?_
        refine w_un (fun z19 hz19 hl19 hh19 => ?_)
        refine w_goto ?_
        refine w_step rfl ?_
        refine w_iast (i := (((24 * k) + p)).toNat) (ai_85 _) rfl (by omega) (by omega) (ae_85 _) ok (by omega) (fun t20 ht20 ok20 => ?_)
        have fr20 := fr.uA ht20 (by simp)
        refine w_push kc_1 ?_
        refine w_retI rfl ?_
        exact ⟨ok20, fr20, (by first | (exact Or.inl ⟨by omega, by first | omega | (subst_vars; rfl), rfl⟩) | (exact Or.inr (Or.inl ⟨by omega, by omega, by first | omega | (subst_vars; rfl), rfl⟩)) | (exact Or.inr (Or.inr (Or.inl ⟨by omega, by omega, by omega, by first | omega | (subst_vars; rfl), rfl⟩))) | (exact Or.inr (Or.inr (Or.inr (Or.inl ⟨by omega, by omega, by omega, by omega, by first | omega | (subst_vars; rfl), rfl⟩)))) | (exact Or.inr (Or.inr (Or.inr (Or.inr (Or.inl ⟨by omega, by omega, by omega, by omega, by first | omega | (subst_vars; rfl), by subst_vars; rfl⟩))))) | (exact Or.inr (Or.inr (Or.inr (Or.inr (Or.inr (Or.inl ⟨by omega, by omega, by omega, by omega, by omega, by first | omega | (subst_vars; rfl), rfl⟩)))))) | (exact Or.inr (Or.inr (Or.inr (Or.inr (Or.inr (Or.inr (⟨by omega, by omega, by omega, by omega, by first | omega | (subst_vars; rfl), by subst_vars; rfl⟩))))))))⟩
      refine w_iload rfl ?_
      refine w_push kc_m99999 ?_
      refine w_push kc_99999 ?_
      refine w_callS3I rfl (c_X9_in ok (by omega) (by omega) (by omega) (by omega) (by omega) (by omega)) ?_
      rintro z21 t21 ⟨rfl, hp21_0⟩
      rcases hp21_0 with ⟨rfl, hp21_0⟩ | ⟨rfl, hp21_0⟩
      · skip
        refine w_ine (by omega) (fun h => absurd h (by omega)) (fun _ => ?_)
        refine w_push kc_m1000000001 ?_
        refine w_retI rfl ?_
        exact ⟨ok, fr, (by first | (exact Or.inl ⟨by omega, by first | omega | (subst_vars; rfl), rfl⟩) | (exact Or.inr (Or.inl ⟨by omega, by omega, by first | omega | (subst_vars; rfl), rfl⟩)) | (exact Or.inr (Or.inr (Or.inl ⟨by omega, by omega, by omega, by first | omega | (subst_vars; rfl), rfl⟩))) | (exact Or.inr (Or.inr (Or.inr (Or.inl ⟨by omega, by omega, by omega, by omega, by first | omega | (subst_vars; rfl), rfl⟩)))) | (exact Or.inr (Or.inr (Or.inr (Or.inr (Or.inl ⟨by omega, by omega, by omega, by omega, by first | omega | (subst_vars; rfl), by subst_vars; rfl⟩))))) | (exact Or.inr (Or.inr (Or.inr (Or.inr (Or.inr (Or.inl ⟨by omega, by omega, by omega, by omega, by omega, by first | omega | (subst_vars; rfl), rfl⟩)))))) | (exact Or.inr (Or.inr (Or.inr (Or.inr (Or.inr (Or.inr (⟨by omega, by omega, by omega, by omega, by first | omega | (subst_vars; rfl), by subst_vars; rfl⟩))))))))⟩
      refine w_ine (by omega) (fun _ => ?_) (fun h => absurd (by omega) h)
      refine w_step rfl ?_
      refine w_aload rfl ?_
      refine w_getR (g_68_28 _) ?_
      refine w_push kc_24 ?_
      refine w_iload rfl ?_
      refine w_mul ?_
      refine w_iload rfl ?_
      refine w_add ?_
      refine w_aload rfl ?_
      refine w_getR (g_68_26 _) ?_
      refine w_iload rfl ?_
      refine w_iald (i := (k).toNat) (ai_83 _) (by omega) (by omega) (ae_83 _) ok (fun z22 hz22 hl22 hh22 => ?_)
      refine w_ine (by omega) (fun h23 => ?_) (fun h23 => ?_)
      · skip
        refine w_step rfl ?_
        refine w_iload rfl ?_
        refine w_goto ?_
        refine w_step rfl ?_
        refine w_iast (i := (((24 * k) + p)).toNat) (ai_85 _) rfl (by omega) (by omega) (ae_85 _) ok (by omega) (fun t24 ht24 ok24 => ?_)
        have fr24 := fr.uA ht24 (by simp)
        refine w_push kc_1 ?_
        refine w_retI rfl ?_
        exact ⟨ok24, fr24, (by first | (exact Or.inl ⟨by omega, by first | omega | (subst_vars; rfl), rfl⟩) | (exact Or.inr (Or.inl ⟨by omega, by omega, by first | omega | (subst_vars; rfl), rfl⟩)) | (exact Or.inr (Or.inr (Or.inl ⟨by omega, by omega, by omega, by first | omega | (subst_vars; rfl), rfl⟩))) | (exact Or.inr (Or.inr (Or.inr (Or.inl ⟨by omega, by omega, by omega, by omega, by first | omega | (subst_vars; rfl), rfl⟩)))) | (exact Or.inr (Or.inr (Or.inr (Or.inr (Or.inl ⟨by omega, by omega, by omega, by omega, by first | omega | (subst_vars; rfl), by subst_vars; rfl⟩))))) | (exact Or.inr (Or.inr (Or.inr (Or.inr (Or.inr (Or.inl ⟨by omega, by omega, by omega, by omega, by omega, by first | omega | (subst_vars; rfl), rfl⟩)))))) | (exact Or.inr (Or.inr (Or.inr (Or.inr (Or.inr (Or.inr (⟨by omega, by omega, by omega, by omega, by first | omega | (subst_vars; rfl), by subst_vars; rfl⟩))))))))⟩
      refine w_iload rfl ?_
      refine w_un (fun z25 hz25 hl25 hh25 => ?_)
      refine w_goto ?_
      refine w_step rfl ?_
      refine w_iast (i := (((24 * k) + p)).toNat) (ai_85 _) rfl (by omega) (by omega) (ae_85 _) ok (by omega) (fun t26 ht26 ok26 => ?_)
      have fr26 := fr.uA ht26 (by simp)
      refine w_push kc_1 ?_
      refine w_retI rfl ?_
      exact ⟨ok26, fr26, (by first | (exact Or.inl ⟨by omega, by first | omega | (subst_vars; rfl), rfl⟩) | (exact Or.inr (Or.inl ⟨by omega, by omega, by first | omega | (subst_vars; rfl), rfl⟩)) | (exact Or.inr (Or.inr (Or.inl ⟨by omega, by omega, by omega, by first | omega | (subst_vars; rfl), rfl⟩))) | (exact Or.inr (Or.inr (Or.inr (Or.inl ⟨by omega, by omega, by omega, by omega, by first | omega | (subst_vars; rfl), rfl⟩)))) | (exact Or.inr (Or.inr (Or.inr (Or.inr (Or.inl ⟨by omega, by omega, by omega, by omega, by first | omega | (subst_vars; rfl), by subst_vars; rfl⟩))))) | (exact Or.inr (Or.inr (Or.inr (Or.inr (Or.inr (Or.inl ⟨by omega, by omega, by omega, by omega, by omega, by first | omega | (subst_vars; rfl), rfl⟩)))))) | (exact Or.inr (Or.inr (Or.inr (Or.inr (Or.inr (Or.inr (⟨by omega, by omega, by omega, by omega, by first | omega | (subst_vars; rfl), by subst_vars; rfl⟩))))))))⟩
    refine w_iload rfl ?_
    refine w_push kc_m1000000005 ?_
    refine w_cne (by omega) (fun h27 => ?_) (fun h27 => ?_)
    · skip
      refine w_step rfl ?_
      refine w_aload rfl ?_
      refine w_getR (g_68_26 _) ?_
      refine w_iload rfl ?_
      refine w_iald (i := (k).toNat) (ai_83 _) (by omega) (by omega) (ae_83 _) ok (fun z28 hz28 hl28 hh28 => ?_)
      refine w_push kc_1 ?_
      refine w_cne (by omega) (fun h29 => ?_) (fun h29 => ?_)
      · skip
        refine w_step rfl ?_
        refine w_aload rfl ?_
        refine w_getR (g_68_28 _) ?_
        refine w_push kc_24 ?_
        refine w_iload rfl ?_
        refine w_mul ?_
        refine w_iload rfl ?_
        refine w_add ?_
        refine w_aload rfl ?_
        refine w_getR (g_68_26 _) ?_
        refine w_iload rfl ?_
        refine w_iald (i := (k).toNat) (ai_83 _) (by omega) (by omega) (ae_83 _) ok (fun z30 hz30 hl30 hh30 => ?_)
        refine w_ine (by omega) (fun h31 => ?_) (fun h31 => ?_)
        · skip
          refine w_step rfl ?_
          refine w_iload rfl ?_
          refine w_goto ?_
          refine w_step rfl ?_
          refine w_iast (i := (((24 * k) + p)).toNat) (ai_85 _) rfl (by omega) (by omega) (ae_85 _) ok (by omega) (fun t32 ht32 ok32 => ?_)
          have fr32 := fr.uA ht32 (by simp)
          refine w_push kc_1 ?_
          refine w_retI rfl ?_
          exact ⟨ok32, fr32, (by first | (exact Or.inl ⟨by omega, by first | omega | (subst_vars; rfl), rfl⟩) | (exact Or.inr (Or.inl ⟨by omega, by omega, by first | omega | (subst_vars; rfl), rfl⟩)) | (exact Or.inr (Or.inr (Or.inl ⟨by omega, by omega, by omega, by first | omega | (subst_vars; rfl), rfl⟩))) | (exact Or.inr (Or.inr (Or.inr (Or.inl ⟨by omega, by omega, by omega, by omega, by first | omega | (subst_vars; rfl), rfl⟩)))) | (exact Or.inr (Or.inr (Or.inr (Or.inr (Or.inl ⟨by omega, by omega, by omega, by omega, by first | omega | (subst_vars; rfl), by subst_vars; rfl⟩))))) | (exact Or.inr (Or.inr (Or.inr (Or.inr (Or.inr (Or.inl ⟨by omega, by omega, by omega, by omega, by omega, by first | omega | (subst_vars; rfl), rfl⟩)))))) | (exact Or.inr (Or.inr (Or.inr (Or.inr (Or.inr (Or.inr (⟨by omega, by omega, by omega, by omega, by first | omega | (subst_vars; rfl), by subst_vars; rfl⟩))))))))⟩
        refine w_iload rfl ?_
        refine w_un (fun z33 hz33 hl33 hh33 => ?_)
        refine w_goto ?_
        refine w_step rfl ?_
        refine w_iast (i := (((24 * k) + p)).toNat) (ai_85 _) rfl (by omega) (by omega) (ae_85 _) ok (by omega) (fun t34 ht34 ok34 => ?_)
        have fr34 := fr.uA ht34 (by simp)
        refine w_push kc_1 ?_
        refine w_retI rfl ?_
        exact ⟨ok34, fr34, (by first | (exact Or.inl ⟨by omega, by first | omega | (subst_vars; rfl), rfl⟩) | (exact Or.inr (Or.inl ⟨by omega, by omega, by first | omega | (subst_vars; rfl), rfl⟩)) | (exact Or.inr (Or.inr (Or.inl ⟨by omega, by omega, by omega, by first | omega | (subst_vars; rfl), rfl⟩))) | (exact Or.inr (Or.inr (Or.inr (Or.inl ⟨by omega, by omega, by omega, by omega, by first | omega | (subst_vars; rfl), rfl⟩)))) | (exact Or.inr (Or.inr (Or.inr (Or.inr (Or.inl ⟨by omega, by omega, by omega, by omega, by first | omega | (subst_vars; rfl), by subst_vars; rfl⟩))))) | (exact Or.inr (Or.inr (Or.inr (Or.inr (Or.inr (Or.inl ⟨by omega, by omega, by omega, by omega, by omega, by first | omega | (subst_vars; rfl), rfl⟩)))))) | (exact Or.inr (Or.inr (Or.inr (Or.inr (Or.inr (Or.inr (⟨by omega, by omega, by omega, by omega, by first | omega | (subst_vars; rfl), by subst_vars; rfl⟩))))))))⟩
      refine w_iload rfl ?_
      refine w_push kc_m1000000005 ?_
      refine w_ceq (by omega) (fun h => absurd h (by omega)) (fun _ => ?_)
      refine w_iload rfl ?_
      refine w_push kc_m99999 ?_
      refine w_push kc_99999 ?_
      refine w_callS3I rfl (c_X9_in ok (by omega) (by omega) (by omega) (by omega) (by omega) (by omega)) ?_
      rintro z35 t35 ⟨rfl, hp35_0⟩
      rcases hp35_0 with ⟨rfl, hp35_0⟩ | ⟨rfl, hp35_0⟩
      · skip
        refine w_ine (by omega) (fun h => absurd h (by omega)) (fun _ => ?_)
        refine w_push kc_m1000000001 ?_
        refine w_retI rfl ?_
        exact ⟨ok, fr, (by first | (exact Or.inl ⟨by omega, by first | omega | (subst_vars; rfl), rfl⟩) | (exact Or.inr (Or.inl ⟨by omega, by omega, by first | omega | (subst_vars; rfl), rfl⟩)) | (exact Or.inr (Or.inr (Or.inl ⟨by omega, by omega, by omega, by first | omega | (subst_vars; rfl), rfl⟩))) | (exact Or.inr (Or.inr (Or.inr (Or.inl ⟨by omega, by omega, by omega, by omega, by first | omega | (subst_vars; rfl), rfl⟩)))) | (exact Or.inr (Or.inr (Or.inr (Or.inr (Or.inl ⟨by omega, by omega, by omega, by omega, by first | omega | (subst_vars; rfl), by subst_vars; rfl⟩))))) | (exact Or.inr (Or.inr (Or.inr (Or.inr (Or.inr (Or.inl ⟨by omega, by omega, by omega, by omega, by omega, by first | omega | (subst_vars; rfl), rfl⟩)))))) | (exact Or.inr (Or.inr (Or.inr (Or.inr (Or.inr (Or.inr (⟨by omega, by omega, by omega, by omega, by first | omega | (subst_vars; rfl), by subst_vars; rfl⟩))))))))⟩
      refine w_ine (by omega) (fun _ => ?_) (fun h => absurd (by omega) h)
      refine w_step rfl ?_
      refine w_aload rfl ?_
      refine w_getR (g_68_28 _) ?_
      refine w_push kc_24 ?_
      refine w_iload rfl ?_
      refine w_mul ?_
      refine w_iload rfl ?_
      refine w_add ?_
      refine w_aload rfl ?_
      refine w_getR (g_68_26 _) ?_
      refine w_iload rfl ?_
      refine w_iald (i := (k).toNat) (ai_83 _) (by omega) (by omega) (ae_83 _) ok (fun z36 hz36 hl36 hh36 => ?_)
      refine w_ine (by omega) (fun h37 => ?_) (fun h37 => ?_)
      · skip
        refine w_step rfl ?_
        refine w_iload rfl ?_
        refine w_goto ?_
        refine w_step rfl ?_
        refine w_iast (i := (((24 * k) + p)).toNat) (ai_85 _) rfl (by omega) (by omega) (ae_85 _) ok (by omega) (fun t38 ht38 ok38 => ?_)
        have fr38 := fr.uA ht38 (by simp)
        refine w_push kc_1 ?_
        refine w_retI rfl ?_
        exact ⟨ok38, fr38, (by first | (exact Or.inl ⟨by omega, by first | omega | (subst_vars; rfl), rfl⟩) | (exact Or.inr (Or.inl ⟨by omega, by omega, by first | omega | (subst_vars; rfl), rfl⟩)) | (exact Or.inr (Or.inr (Or.inl ⟨by omega, by omega, by omega, by first | omega | (subst_vars; rfl), rfl⟩))) | (exact Or.inr (Or.inr (Or.inr (Or.inl ⟨by omega, by omega, by omega, by omega, by first | omega | (subst_vars; rfl), rfl⟩)))) | (exact Or.inr (Or.inr (Or.inr (Or.inr (Or.inl ⟨by omega, by omega, by omega, by omega, by first | omega | (subst_vars; rfl), by subst_vars; rfl⟩))))) | (exact Or.inr (Or.inr (Or.inr (Or.inr (Or.inr (Or.inl ⟨by omega, by omega, by omega, by omega, by omega, by first | omega | (subst_vars; rfl), rfl⟩)))))) | (exact Or.inr (Or.inr (Or.inr (Or.inr (Or.inr (Or.inr (⟨by omega, by omega, by omega, by omega, by first | omega | (subst_vars; rfl), by subst_vars; rfl⟩))))))))⟩
      refine w_iload rfl ?_
      refine w_un (fun z39 hz39 hl39 hh39 => ?_)
      refine w_goto ?_
      refine w_step rfl ?_
      refine w_iast (i := (((24 * k) + p)).toNat) (ai_85 _) rfl (by omega) (by omega) (ae_85 _) ok (by omega) (fun t40 ht40 ok40 => ?_)
      have fr40 := fr.uA ht40 (by simp)
      refine w_push kc_1 ?_
      refine w_retI rfl ?_
      exact ⟨ok40, fr40, (by first | (exact Or.inl ⟨by omega, by first | omega | (subst_vars; rfl), rfl⟩) | (exact Or.inr (Or.inl ⟨by omega, by omega, by first | omega | (subst_vars; rfl), rfl⟩)) | (exact Or.inr (Or.inr (Or.inl ⟨by omega, by omega, by omega, by first | omega | (subst_vars; rfl), rfl⟩))) | (exact Or.inr (Or.inr (Or.inr (Or.inl ⟨by omega, by omega, by omega, by omega, by first | omega | (subst_vars; rfl), rfl⟩)))) | (exact Or.inr (Or.inr (Or.inr (Or.inr (Or.inl ⟨by omega, by omega, by omega, by omega, by first | omega | (subst_vars; rfl), by subst_vars; rfl⟩))))) | (exact Or.inr (Or.inr (Or.inr (Or.inr (Or.inr (Or.inl ⟨by omega, by omega, by omega, by omega, by omega, by first | omega | (subst_vars; rfl), rfl⟩)))))) | (exact Or.inr (Or.inr (Or.inr (Or.inr (Or.inr (Or.inr (⟨by omega, by omega, by omega, by omega, by first | omega | (subst_vars; rfl), by subst_vars; rfl⟩))))))))⟩
    refine w_push kc_m1000000012 ?_
    refine w_retI rfl ?_
    exact ⟨ok, fr, (by first | (exact Or.inl ⟨by omega, by first | omega | (subst_vars; rfl), rfl⟩) | (exact Or.inr (Or.inl ⟨by omega, by omega, by first | omega | (subst_vars; rfl), rfl⟩)) | (exact Or.inr (Or.inr (Or.inl ⟨by omega, by omega, by omega, by first | omega | (subst_vars; rfl), rfl⟩))) | (exact Or.inr (Or.inr (Or.inr (Or.inl ⟨by omega, by omega, by omega, by omega, by first | omega | (subst_vars; rfl), rfl⟩)))) | (exact Or.inr (Or.inr (Or.inr (Or.inr (Or.inl ⟨by omega, by omega, by omega, by omega, by first | omega | (subst_vars; rfl), by subst_vars; rfl⟩))))) | (exact Or.inr (Or.inr (Or.inr (Or.inr (Or.inr (Or.inl ⟨by omega, by omega, by omega, by omega, by omega, by first | omega | (subst_vars; rfl), rfl⟩)))))) | (exact Or.inr (Or.inr (Or.inr (Or.inr (Or.inr (Or.inr (⟨by omega, by omega, by omega, by omega, by first | omega | (subst_vars; rfl), by subst_vars; rfl⟩))))))))⟩
  refine w_push kc_m1000000011 ?_
  refine w_retI rfl ?_
  exact ⟨ok, fr, (by first | (exact Or.inl ⟨by omega, by first | omega | (subst_vars; rfl), rfl⟩) | (exact Or.inr (Or.inl ⟨by omega, by omega, by first | omega | (subst_vars; rfl), rfl⟩)) | (exact Or.inr (Or.inr (Or.inl ⟨by omega, by omega, by omega, by first | omega | (subst_vars; rfl), rfl⟩))) | (exact Or.inr (Or.inr (Or.inr (Or.inl ⟨by omega, by omega, by omega, by omega, by first | omega | (subst_vars; rfl), rfl⟩)))) | (exact Or.inr (Or.inr (Or.inr (Or.inr (Or.inl ⟨by omega, by omega, by omega, by omega, by first | omega | (subst_vars; rfl), by subst_vars; rfl⟩))))) | (exact Or.inr (Or.inr (Or.inr (Or.inr (Or.inr (Or.inl ⟨by omega, by omega, by omega, by omega, by omega, by first | omega | (subst_vars; rfl), rfl⟩)))))) | (exact Or.inr (Or.inr (Or.inr (Or.inr (Or.inr (Or.inr (⟨by omega, by omega, by omega, by omega, by first | omega | (subst_vars; rfl), by subst_vars; rfl⟩))))))))⟩
set_option maxRecDepth 100000 in
set_option maxHeartbeats 4000000 in
theorem c_X9_pour {d : Nat} {t : TS} {k : Int}  (ok : OK t) (q0 : -2147483648 ≤ k) (q1 : k ≤ 2147483647) : CI (EX FU (d + 3)) 210 [.ref 68, .int (jI k)] (mk t) (fun z t' => OK t' ∧ Fr [(69, 100)] t t' ∧ (((¬ (0 ≤ k ∧ k ≤ 3)) ∧ z = (-1000000001) ∧ t' = t) ∨ ((0 ≤ k ∧ k ≤ 3) ∧ (tA t 83 k.toNat = -1) ∧ z = (-1000000011) ∧ t' = t) ∨ ((0 ≤ k ∧ k ≤ 3) ∧ (¬ tA t 83 k.toNat = -1) ∧ z = prC (tA t 84 k.toNat) (fun m => tA t 85 (24 * k.toNat + m)) (fun m => tA t 69 (5 + m)) (tA t 84 k.toNat).toNat ∧ (∀ m : Nat, m < 24 → tA t' 69 (5 + m) = prF (tA t 84 k.toNat) (fun m => tA t 85 (24 * k.toNat + m)) (fun m => tA t 69 (5 + m)) m) ∧ (∀ i, (i < 5 ∨ 29 ≤ i) → tA t' 69 i = tA t 69 i)))) := by
  refine CI_ent (d := d + 2) (Bk := bX9_pour) (nL := 6) rfl rfl rfl (Nat.le_of_ble_eq_true rfl) ?_
  show Rn _ 1000000 0 [some (.ref 68), some (.int (jI k)), none, none, none, none] [] _ _
  have fr : Fr [(69, 100)] t t := Fr.rf _ _
  have hn0 := (ok.a (ax_69 nr_1)).1
  have hn1 := (ok.a (ax_69 nr_1)).2
  have h84 := ok.a (ae_84 k.toNat)
  refine w_step rfl ?_
  refine w_iload rfl ?_
  refine w_callS1I rfl (c_X9_isSheet ok (by omega) (by omega)) ?_
  rintro z1 t1 ⟨rfl, hp1_0⟩
  rcases hp1_0 with ⟨rfl, hp1_0⟩ | ⟨rfl, hp1_0⟩
  · skip
    refine w_ine (by omega) (fun h => absurd h (by omega)) (fun _ => ?_)
    refine w_push kc_m1000000001 ?_
    refine w_retI rfl ?_
    exact ⟨ok, fr, (by first | (exact Or.inl ⟨by omega, by first | omega | (subst_vars; rfl), rfl⟩) | (exact Or.inr (Or.inl ⟨by omega, by omega, by first | omega | (subst_vars; rfl), rfl⟩)) | (exact Or.inr (Or.inr (⟨by omega, by omega, by rw [i3_4, show c.toNat = (tA t 84 k.toNat).toNat by omega], by intro m hm; rw [i3_5 m]; exact pour_end (by omega), i3_6⟩))))⟩
  refine w_ine (by omega) (fun _ => ?_) (fun h => absurd (by omega) h)
  refine w_step rfl ?_
  refine w_aload rfl ?_
  refine w_getR (g_68_26 _) ?_
  refine w_iload rfl ?_
  refine w_iald (i := (k).toNat) (ai_83 _) (by omega) (by omega) (ae_83 _) ok (fun z2 hz2 hl2 hh2 => ?_)
  refine w_ige (by omega) (fun h3 => ?_) (fun h3 => ?_)
  · skip
    refine w_step rfl ?_
    refine w_push kc_0 ?_
    refine w_istore (lv' := [some (.ref 68), some (.int (jI k)), some (.int (jI 0)), none, none, none]) rfl ?_
    refine w_push kc_0 ?_
    refine w_istore (lv' := [some (.ref 68), some (.int (jI k)), some (.int (jI 0)), some (.int (jI 0)), none, none]) rfl ?_
    refine w_goto ?_
    have key3 : ∀ (n3 M3 : Nat) (acc : Int) (c : Int) (o4 : Option Int) (o5 : Option Int) (t4 : TS), OK t4 → Fr [(69, 100)] t t4 → (0 ≤ c) → (c ≤ 24) → (0 ≤ acc) → (acc ≤ c) → (acc = prC (tA t 84 k.toNat) (fun m => tA t 85 (24 * k.toNat + m)) (fun m => tA t 69 (5 + m)) c.toNat) → (∀ m : Nat, tA t4 69 (5 + m) = if (m : Int) < c then prF (tA t 84 k.toNat) (fun m => tA t 85 (24 * k.toNat + m)) (fun m => tA t 69 (5 + m)) m else tA t 69 (5 + m)) → (∀ i, (i < 5 ∨ 29 ≤ i) → tA t4 69 i = tA t 69 i) → (c ≤ tA t 84 k.toNat) → 24 - c < (n3 : Int) → 60 * n3 + (1000) ≤ M3 → Rn (bX9_pour (EX FU (d + 2))) M3 3 [some (.ref 68), some (.int (jI k)), some (.int (jI acc)), some (.int (jI c)), dv o4, dv o5] [] (mk t4) (PI (fun z t' => OK t' ∧ Fr [(69, 100)] t t' ∧ (((¬ (0 ≤ k ∧ k ≤ 3)) ∧ z = (-1000000001) ∧ t' = t) ∨ ((0 ≤ k ∧ k ≤ 3) ∧ (tA t 83 k.toNat = -1) ∧ z = (-1000000011) ∧ t' = t) ∨ ((0 ≤ k ∧ k ≤ 3) ∧ (¬ tA t 83 k.toNat = -1) ∧ z = prC (tA t 84 k.toNat) (fun m => tA t 85 (24 * k.toNat + m)) (fun m => tA t 69 (5 + m)) (tA t 84 k.toNat).toNat ∧ (∀ m : Nat, m < 24 → tA t' 69 (5 + m) = prF (tA t 84 k.toNat) (fun m => tA t 85 (24 * k.toNat + m)) (fun m => tA t 69 (5 + m)) m) ∧ (∀ i, (i < 5 ∨ 29 ≤ i) → tA t' 69 i = tA t 69 i))))) := by
      intro n3
      induction n3 with
      | zero => intro M3 acc c o4 o5 t4 ok4 fr4 i3_0 i3_1 i3_2 i3_3 i3_4 i3_5 i3_6 i3_7 v3 f3; exfalso; omega
      | succ n3 ih3 =>
        intro M3 acc c o4 o5 t4 ok4 fr4 i3_0 i3_1 i3_2 i3_3 i3_4 i3_5 i3_6 i3_7 v3 f3
        obtain ⟨M3, rfl⟩ : ∃ m, M3 = m + 60 := ⟨M3 - 60, by omega⟩
        have hS : ∀ m, tA t4 84 m = tA t 84 m := fun m => fr4.2.1 84 (by simp) m
        have hC : ∀ m, tA t4 85 m = tA t 85 m := fun m => fr4.2.1 85 (by simp) m
        have hSk := hS k.toNat
        refine w_step rfl ?_
        refine w_iload rfl ?_
        refine w_aload rfl ?_
        refine w_getR (g_68_27 _) ?_
        refine w_iload rfl ?_
        refine w_iald (i := (k).toNat) (ai_84 _) (by omega) (by omega) (ae_84 _) ok4 (fun z5 hz5 hl5 hh5 => ?_)
        refine w_cge (by omega) (fun h6 => ?_) (fun h6 => ?_)
        · skip
          refine w_step rfl ?_
          refine w_iload rfl ?_
          refine w_retI rfl ?_
          exact ⟨ok4, fr4, (by first | (exact Or.inl ⟨by omega, by first | omega | (subst_vars; rfl), rfl⟩) | (exact Or.inr (Or.inl ⟨by omega, by omega, by first | omega | (subst_vars; rfl), rfl⟩)) | (exact Or.inr (Or.inr (⟨by omega, by omega, by rw [i3_4, show c.toNat = (tA t 84 k.toNat).toNat by omega], by intro m hm; rw [i3_5 m]; exact pour_end (by omega), i3_6⟩))))⟩
        refine w_aload rfl ?_
        refine w_getR (g_68_28 _) ?_
        refine w_push kc_24 ?_
        refine w_iload rfl ?_
        refine w_mul ?_
        refine w_iload rfl ?_
        refine w_add ?_
        refine w_iald (i := (((24 * k) + c)).toNat) (ai_85 _) (by omega) (by omega) (ae_85 _) ok4 (fun z7 hz7 hl7 hh7 => ?_)
        have ev : z7 = tA t 85 (24 * k.toNat + c.toNat) := by
          rw [hz7, hC]
          congr 1
          omega
        refine w_istore (lv' := [some (.ref 68), some (.int (jI k)), some (.int (jI acc)), some (.int (jI c)), some (.int (jI z7)), dv o5]) rfl ?_
        refine w_iload rfl ?_
        refine w_push kc_m1000000005 ?_
        refine w_cne (by omega) (fun h8 => ?_) (fun h8 => ?_)
        · skip
          refine w_step rfl ?_
          refine w_iload rfl ?_
          refine w_push kc_0 ?_
          refine w_push kc_99 ?_
          refine w_callS3I rfl (c_X9_within ok4 (by omega) (by omega) (by omega) (by omega) (by omega) (by omega) (by omega)) ?_
          rintro z9 t9 ⟨rfl, hp9_0⟩
          refine w_goto ?_
          refine w_step rfl ?_
          refine w_istore (lv' := [some (.ref 68), some (.int (jI k)), some (.int (jI acc)), some (.int (jI c)), some (.int (jI z7)), some (.int (jI z9))]) rfl ?_
          refine w_iload rfl ?_
          refine w_aload rfl ?_
          refine w_push kc_5 ?_
          refine w_iload rfl ?_
          refine w_add ?_
          refine w_iload rfl ?_
          refine w_callV2I (oj_68 _).choose_spec rfl (c_X9_becomes ok4 (by omega) (by omega) ⟨_, _, nr_W (by omega), by omega, by omega⟩) ?_
          rintro z10 t10 ⟨ok10, fq10, hp10_0, hp10_1, hp10_2, hp10_3⟩
          have fr10 := fr4.then fq10 (by simp)
          have eold : z10 = tA t 69 (5 + c.toNat) := by
            rw [hp10_0, show (5 + c).toNat = 5 + c.toNat by omega, i3_5 c.toNat, if_neg (by omega)]
          have ew : ∀ m : Nat, tA t10 69 (5 + m) = if m = c.toNat then z9 else tA t4 69 (5 + m) := by
            intro m
            rw [hp10_1, tA_uA]
            by_cases h9 : m = c.toNat
            · rw [if_pos (by omega), if_pos h9]
            · rw [if_neg (by omega), if_neg h9]
          have eo2 : ∀ i, (i < 5 ∨ 29 ≤ i) → tA t10 69 i = tA t 69 i := fun i hi => by rw [hp10_1, tA_uA, if_neg (by omega)]; exact i3_6 i hi
          refine w_iload rfl ?_
          refine w_cne (by omega) (fun h11 => ?_) (fun h11 => ?_)
          · skip
            refine w_step rfl ?_
            refine w_push kc_1 ?_
            refine w_goto ?_
            refine w_step rfl ?_
            refine w_add ?_
            refine w_istore (lv' := [some (.ref 68), some (.int (jI k)), some (.int (jI (acc + 1))), some (.int (jI c)), some (.int (jI z7)), some (.int (jI z9))]) rfl ?_
            refine w_iinc (lv' := [some (.ref 68), some (.int (jI k)), some (.int (jI (acc + 1))), some (.int (jI (c + 1))), some (.int (jI z7)), some (.int (jI z9))]) kc_1 rfl rfl ?_
            refine w_goto ?_
            have ea : (acc + 1) = prC (tA t 84 k.toNat) (fun m => tA t 85 (24 * k.toNat + m)) (fun m => tA t 69 (5 + m)) (c + 1).toNat := by first | exact pour_y (v := z9) i3_0 (by constructor <;> omega) (by omega) i3_4 (by omega) | (have h7 := pour_n (sz := tA t 84 k.toNat) (rw := fun m => tA t 85 (24 * k.toNat + m)) (w := fun m => tA t 69 (5 + m)) i3_0 (fun q => q.2 (by omega)) i3_4; omega)
            have ex : ∀ m : Nat, tA t10 69 (5 + m) = if (m : Int) < c + 1 then prF (tA t 84 k.toNat) (fun m => tA t 85 (24 * k.toNat + m)) (fun m => tA t 69 (5 + m)) m else tA t 69 (5 + m) := by first | exact pour_wy (v := z9) i3_0 (by constructor <;> omega) (by omega) i3_5 ew | exact pour_wk i3_0 (fun q => q.2 (by omega)) (by omega) i3_5 ew
            exact ih3 _ (acc + 1) (c + 1) (some z7) (some z9) t10 ok10 fr10 (by omega) (by omega) (by omega) (by omega) ea ex eo2 (by omega) (by omega) (by omega)
          refine w_push kc_0 ?_
          refine w_goto ?_
          refine w_step rfl ?_
          refine w_add ?_
          refine w_istore (lv' := [some (.ref 68), some (.int (jI k)), some (.int (jI (acc + 0))), some (.int (jI c)), some (.int (jI z7)), some (.int (jI z9))]) rfl ?_
          refine w_iinc (lv' := [some (.ref 68), some (.int (jI k)), some (.int (jI (acc + 0))), some (.int (jI (c + 1))), some (.int (jI z7)), some (.int (jI z9))]) kc_1 rfl rfl ?_
          refine w_goto ?_
          have ea : (acc + 0) = prC (tA t 84 k.toNat) (fun m => tA t 85 (24 * k.toNat + m)) (fun m => tA t 69 (5 + m)) (c + 1).toNat := by first | exact pour_y (v := z9) i3_0 (by constructor <;> omega) (by omega) i3_4 (by omega) | (have h7 := pour_n (sz := tA t 84 k.toNat) (rw := fun m => tA t 85 (24 * k.toNat + m)) (w := fun m => tA t 69 (5 + m)) i3_0 (fun q => q.2 (by omega)) i3_4; omega)
          have ex : ∀ m : Nat, tA t10 69 (5 + m) = if (m : Int) < c + 1 then prF (tA t 84 k.toNat) (fun m => tA t 85 (24 * k.toNat + m)) (fun m => tA t 69 (5 + m)) m else tA t 69 (5 + m) := by first | exact pour_wy (v := z9) i3_0 (by constructor <;> omega) (by omega) i3_5 ew | exact pour_wk i3_0 (fun q => q.2 (by omega)) (by omega) i3_5 ew
          exact ih3 _ (acc + 0) (c + 1) (some z7) (some z9) t10 ok10 fr10 (by omega) (by omega) (by omega) (by omega) ea ex eo2 (by omega) (by omega) (by omega)
        refine w_aload rfl ?_
        refine w_getR (g_68_0 _) ?_
        refine w_push kc_5 ?_
        refine w_iload rfl ?_
        refine w_add ?_
        refine w_iald (i := ((5 + c)).toNat) (ai_69 _) (by omega) (by omega) (ax_69 (nr_W (by omega))) ok4 (fun z12 hz12 hl12 hh12 => ?_)
        have eo : z12 = tA t 69 (5 + c.toNat) := by
          rw [hz12, show (5 + c).toNat = 5 + c.toNat by omega, i3_5 c.toNat, if_neg (by omega)]
        refine w_goto ?_
        refine w_step rfl ?_
        refine w_istore (lv' := [some (.ref 68), some (.int (jI k)), some (.int (jI acc)), some (.int (jI c)), some (.int (jI z7)), some (.int (jI z12))]) rfl ?_
        refine w_iload rfl ?_
        refine w_aload rfl ?_
        refine w_push kc_5 ?_
        refine w_iload rfl ?_
        refine w_add ?_
        refine w_iload rfl ?_
        refine w_callV2I (oj_68 _).choose_spec rfl (c_X9_becomes ok4 (by omega) (by omega) ⟨_, _, nr_W (by omega), by omega, by omega⟩) ?_
        rintro z13 t13 ⟨ok13, fq13, hp13_0, hp13_1, hp13_2, hp13_3⟩
        have fr13 := fr4.then fq13 (by simp)
        have eold : z13 = tA t 69 (5 + c.toNat) := by
          rw [hp13_0, show (5 + c).toNat = 5 + c.toNat by omega, i3_5 c.toNat, if_neg (by omega)]
        have ew : ∀ m : Nat, tA t13 69 (5 + m) = if m = c.toNat then z12 else tA t4 69 (5 + m) := by
          intro m
          rw [hp13_1, tA_uA]
          by_cases h9 : m = c.toNat
          · rw [if_pos (by omega), if_pos h9]
          · rw [if_neg (by omega), if_neg h9]
        have eo2 : ∀ i, (i < 5 ∨ 29 ≤ i) → tA t13 69 i = tA t 69 i := fun i hi => by rw [hp13_1, tA_uA, if_neg (by omega)]; exact i3_6 i hi
        refine w_iload rfl ?_
        refine w_cne (by omega) (fun h14 => ?_) (fun h14 => ?_)
        · skip
          refine w_step rfl ?_
          refine w_push kc_1 ?_
          refine w_goto ?_
          refine w_step rfl ?_
          refine w_add ?_
          refine w_istore (lv' := [some (.ref 68), some (.int (jI k)), some (.int (jI (acc + 1))), some (.int (jI c)), some (.int (jI z7)), some (.int (jI z12))]) rfl ?_
          refine w_iinc (lv' := [some (.ref 68), some (.int (jI k)), some (.int (jI (acc + 1))), some (.int (jI (c + 1))), some (.int (jI z7)), some (.int (jI z12))]) kc_1 rfl rfl ?_
          refine w_goto ?_
          have ea : (acc + 1) = prC (tA t 84 k.toNat) (fun m => tA t 85 (24 * k.toNat + m)) (fun m => tA t 69 (5 + m)) (c + 1).toNat := by first | exact pour_y (v := z12) i3_0 (by constructor <;> omega) (by omega) i3_4 (by omega) | (have h7 := pour_n (sz := tA t 84 k.toNat) (rw := fun m => tA t 85 (24 * k.toNat + m)) (w := fun m => tA t 69 (5 + m)) i3_0 (fun q => q.2 (by omega)) i3_4; omega)
          have ex : ∀ m : Nat, tA t13 69 (5 + m) = if (m : Int) < c + 1 then prF (tA t 84 k.toNat) (fun m => tA t 85 (24 * k.toNat + m)) (fun m => tA t 69 (5 + m)) m else tA t 69 (5 + m) := by first | exact pour_wy (v := z12) i3_0 (by constructor <;> omega) (by omega) i3_5 ew | exact pour_wk i3_0 (fun q => q.2 (by omega)) (by omega) i3_5 ew
          exact ih3 _ (acc + 1) (c + 1) (some z7) (some z12) t13 ok13 fr13 (by omega) (by omega) (by omega) (by omega) ea ex eo2 (by omega) (by omega) (by omega)
        refine w_push kc_0 ?_
        refine w_goto ?_
        refine w_step rfl ?_
        refine w_add ?_
        refine w_istore (lv' := [some (.ref 68), some (.int (jI k)), some (.int (jI (acc + 0))), some (.int (jI c)), some (.int (jI z7)), some (.int (jI z12))]) rfl ?_
        refine w_iinc (lv' := [some (.ref 68), some (.int (jI k)), some (.int (jI (acc + 0))), some (.int (jI (c + 1))), some (.int (jI z7)), some (.int (jI z12))]) kc_1 rfl rfl ?_
        refine w_goto ?_
        have ea : (acc + 0) = prC (tA t 84 k.toNat) (fun m => tA t 85 (24 * k.toNat + m)) (fun m => tA t 69 (5 + m)) (c + 1).toNat := by first | exact pour_y (v := z12) i3_0 (by constructor <;> omega) (by omega) i3_4 (by omega) | (have h7 := pour_n (sz := tA t 84 k.toNat) (rw := fun m => tA t 85 (24 * k.toNat + m)) (w := fun m => tA t 69 (5 + m)) i3_0 (fun q => q.2 (by omega)) i3_4; omega)
        have ex : ∀ m : Nat, tA t13 69 (5 + m) = if (m : Int) < c + 1 then prF (tA t 84 k.toNat) (fun m => tA t 85 (24 * k.toNat + m)) (fun m => tA t 69 (5 + m)) m else tA t 69 (5 + m) := by first | exact pour_wy (v := z12) i3_0 (by constructor <;> omega) (by omega) i3_5 ew | exact pour_wk i3_0 (fun q => q.2 (by omega)) (by omega) i3_5 ew
        exact ih3 _ (acc + 0) (c + 1) (some z7) (some z12) t13 ok13 fr13 (by omega) (by omega) (by omega) (by omega) ea ex eo2 (by omega) (by omega) (by omega)
    exact key3 25 _ 0 0 none none t ok fr (by omega) (by omega) (by omega) (by omega) rfl (by intro m; rw [if_neg (by omega)]) (fun _ _ => rfl) (by omega) (by omega) (by omega)
  refine w_push kc_m1000000011 ?_
  refine w_retI rfl ?_
  exact ⟨ok, fr, (by first | (exact Or.inl ⟨by omega, by first | omega | (subst_vars; rfl), rfl⟩) | (exact Or.inr (Or.inl ⟨by omega, by omega, by first | omega | (subst_vars; rfl), rfl⟩)) | (exact Or.inr (Or.inr (⟨by omega, by omega, by rw [i3_4, show c.toNat = (tA t 84 k.toNat).toNat by omega], by intro m hm; rw [i3_5 m]; exact pour_end (by omega), i3_6⟩))))⟩
set_option maxRecDepth 100000 in
set_option maxHeartbeats 4000000 in
theorem c_X9_keep {d : Nat} {t : TS}  (ok : OK t) : CI (EX FU (d + 2)) 219 [.ref 68] (mk t) (fun z t' => OK t' ∧ Fr [(70, 100), (68, 3)] t t' ∧ (z = tA t 69 1) ∧ (tI t' 68 3 = 1) ∧ (∀ i : Nat, i < 1461 → tA t' 70 i = tA t 69 i)) := by
  refine CI_ent (d := d + 1) (Bk := bX9_keep) (nL := 1) rfl rfl rfl (Nat.le_of_ble_eq_true rfl) ?_
  show Rn _ 1000000 0 [some (.ref 68)] [] _ _
  have fr : Fr [(70, 100), (68, 3)] t t := Fr.rf _ _
  have hn0 := (ok.a (ax_69 nr_1)).1
  have hn1 := (ok.a (ax_69 nr_1)).2
  refine w_step rfl ?_
  refine w_aload rfl ?_
  refine w_getR (g_68_0 _) ?_
  refine w_aload rfl ?_
  refine w_getR (g_68_1 _) ?_
  refine w_callS2V rfl (c_X9_copyAll_69_70 ok) ?_
  rintro t1 ⟨ok1, fq1, hp1_0⟩
  have fr1 := fr.then fq1 (by simp)
  have e0 := hp1_0
  have e1 := fq1.2.1 69 (by simp) 1
  refine w_aload rfl ?_
  refine w_push kc_1 ?_
  refine w_putZ (by omega) (p_68_3 _) fe_68_3 ok1 (by omega) (fun t2 ht2 ok2 => ?_)
  have fr2 := fr1.uI ht2 (by simp)
  have eK := ht2
  refine w_aload rfl ?_
  refine w_getR (g_68_0 _) ?_
  refine w_push kc_1 ?_
  refine w_iald (i := 1) (ai_69 _) (by omega) (by omega) (ax_69 nr_1) ok2 (fun z3 hz3 hl3 hh3 => ?_)
  have ez : z3 = tA t 69 1 := by rw [hz3, eK, tA_uI]; exact e1
  refine w_retI rfl ?_
  exact ⟨ok2, fr2, ez, (by rw [eK, tI_uI, if_pos ⟨rfl, rfl⟩]), (by intro i hi; rw [eK, tA_uI]; exact e0 i hi)⟩
set_option maxRecDepth 100000 in
set_option maxHeartbeats 4000000 in
theorem c_X9_back {d : Nat} {t : TS}  (ok : OK t) : CI (EX FU (d + 2)) 220 [.ref 68] (mk t) (fun z t' => OK t' ∧ Fr [(69, 100)] t t' ∧ (((tI t 68 3 = 0) ∧ z = (-1000000002) ∧ t' = t) ∨ ((¬ tI t 68 3 = 0) ∧ z = tA t 70 1 ∧ (∀ i : Nat, i < 1461 → tA t' 69 i = tA t 70 i)))) := by
  refine CI_ent (d := d + 1) (Bk := bX9_back) (nL := 1) rfl rfl rfl (Nat.le_of_ble_eq_true rfl) ?_
  show Rn _ 1000000 0 [some (.ref 68)] [] _ _
  have fr : Fr [(69, 100)] t t := Fr.rf _ _
  have hn0 := (ok.a (ax_69 nr_1)).1
  have hn1 := (ok.a (ax_69 nr_1)).2
  refine w_step rfl ?_
  refine w_aload rfl ?_
  refine w_getI (g_68_3 _) fe_68_3 ok (fun z1 hz1 hl1 hh1 => ?_)
  refine w_ine (by omega) (fun h2 => ?_) (fun h2 => ?_)
  · skip
    refine w_step rfl ?_
    refine w_aload rfl ?_
    refine w_getR (g_68_1 _) ?_
    refine w_aload rfl ?_
    refine w_getR (g_68_0 _) ?_
    refine w_callS2V rfl (c_X9_copyAll_70_69 ok) ?_
    rintro t3 ⟨ok3, fq3, hp3_0⟩
    have fr3 := fr.then fq3 (by simp)
    have e0 := hp3_0
    refine w_aload rfl ?_
    refine w_getR (g_68_0 _) ?_
    refine w_push kc_1 ?_
    refine w_iald (i := 1) (ai_69 _) (by omega) (by omega) (ax_69 nr_1) ok3 (fun z4 hz4 hl4 hh4 => ?_)
    have ez : z4 = tA t 70 1 := by rw [hz4]; exact e0 1 (by decide)
    refine w_retI rfl ?_
    exact ⟨ok3, fr3, (by first | (exact Or.inl ⟨by omega, by first | omega | (subst_vars; rfl), rfl⟩) | (exact Or.inr (⟨by omega, by first | omega | (subst_vars; rfl), e0⟩)))⟩
  refine w_push kc_m1000000002 ?_
  refine w_retI rfl ?_
  exact ⟨ok, fr, (by first | (exact Or.inl ⟨by omega, by first | omega | (subst_vars; rfl), rfl⟩) | (exact Or.inr (⟨by omega, by first | omega | (subst_vars; rfl), e0⟩)))⟩
set_option maxRecDepth 100000 in
set_option maxHeartbeats 4000000 in
theorem c_X9_tell {d : Nat} {t : TS} {v : Int}  (ok : OK t) (q0 : -2147483648 ≤ v) (q1 : v ≤ 2147483647) : CI (EX FU (d + 1)) 217 [.ref 68, .int (jI v)] (mk t) (fun z t' => OK t' ∧ Fr [(68, 35), (91, 100)] t t' ∧ (((60 ≤ tI t 68 35) ∧ z = (-1000000003) ∧ t' = t) ∨ ((tI t 68 35 < 60) ∧ z = tI t 68 35 + 1 ∧ (tI t' 68 35 = tI t 68 35 + 1) ∧ (∀ i, tA t' 91 i = if i = (tI t 68 35).toNat then v else tA t 91 i)))) := by
  refine CI_ent (d := d + 0) (Bk := bX9_tell) (nL := 2) rfl rfl rfl (Nat.le_of_ble_eq_true rfl) ?_
  show Rn _ 1000000 0 [some (.ref 68), some (.int (jI v))] [] _ _
  have fr : Fr [(68, 35), (91, 100)] t t := Fr.rf _ _
  have hn0 := (ok.a (ax_69 nr_1)).1
  have hn1 := (ok.a (ax_69 nr_1)).2
  refine w_step rfl ?_
  refine w_aload rfl ?_
  refine w_getI (g_68_35 _) fe_68_35 ok (fun z1 hz1 hl1 hh1 => ?_)
  refine w_push kc_60 ?_
  refine w_cne (by omega) (fun h2 => ?_) (fun h2 => ?_)
  · skip
    refine w_step rfl ?_
    refine w_aload rfl ?_
    refine w_getR (g_68_34 _) ?_
    refine w_aload rfl ?_
    refine w_getI (g_68_35 _) fe_68_35 ok (fun z3 hz3 hl3 hh3 => ?_)
    refine w_iload rfl ?_
    refine w_iast (i := (z3).toNat) (ai_91 _) rfl (by omega) (by omega) (ae_91 _) ok (by omega) (fun t4 ht4 ok4 => ?_)
    have fr4 := fr.uA ht4 (by simp)
    have e1 : tI t4 68 35 = tI t 68 35 := by rw [ht4, tI_uA]
    refine w_aload rfl ?_
    refine w_dupR ?_
    refine w_getI (g_68_35 _) fe_68_35 ok4 (fun z5 hz5 hl5 hh5 => ?_)
    refine w_push kc_1 ?_
    refine w_add ?_
    refine w_putI (p_68_35 _) fe_68_35 ok4 (by omega) (fun t6 ht6 ok6 => ?_)
    have fr6 := fr4.uI ht6 (by simp)
    have e2 : tI t6 68 35 = tI t 68 35 + 1 := by rw [ht6, tI_uI, if_pos ⟨rfl, rfl⟩]; omega
    refine w_aload rfl ?_
    refine w_getI (g_68_35 _) fe_68_35 ok6 (fun z7 hz7 hl7 hh7 => ?_)
    refine w_retI rfl ?_
    exact ⟨ok6, fr6, (by first | (exact Or.inl ⟨by omega, by first | omega | (subst_vars; rfl), rfl⟩) | (exact Or.inr (⟨by omega, by first | omega | (subst_vars; rfl), e2, by intro i; subst_vars; simp [tA_uI, tA_uA]⟩)))⟩
  refine w_push kc_m1000000003 ?_
  refine w_retI rfl ?_
  exact ⟨ok, fr, (by first | (exact Or.inl ⟨by omega, by first | omega | (subst_vars; rfl), rfl⟩) | (exact Or.inr (⟨by omega, by first | omega | (subst_vars; rfl), e2, by intro i; subst_vars; simp [tA_uI, tA_uA]⟩)))⟩
