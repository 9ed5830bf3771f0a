set_option maxRecDepth 100000 in
theorem lw_2 {xs : List Int32} {i : Int} {N m : Nat} {t : TS} {P : Option Value → ab_W → Prop} (hi : 0 ≤ i ∧ i + 6 ≤ xs.length) (hx : xs.length ≤ 3072) (v : INV m t) (hm : m ≤ 600) (key : ∀ t', INV (m + 1) t' → Rn (bL_law xs (EX FU 100)) N 46 [some (.ref 1000001), some (.ref 0), some (.ref 68), some (.int (jI i))] [] (mk t') P) : Rn (bL_law xs (EX FU 100)) (N + 1) 2 [some (.ref 1000001), some (.ref 0), some (.ref 68), some (.int (jI i))] [] (mk t) P := by
  obtain ⟨ok, wf, wg, c1, c2, sl, g1, g2, rs, rl, rm, dl⟩ := v
  have s12 := ok.f fe_1_10
  have s13 := ok.f fe_12_10
  have i1 := g1.1.1
  have i3 := g1.1.2.2.1
  have x1 := xz_jr xs (i + 1)
  have x2 := xz_jr xs (i + 2)
  have x3 := xz_jr xs (i + 3)
  refine w_step rfl ?_
  refine w_aload rfl ?_
  refine w_aload rfl ?_
  refine w_iload rfl ?_
  refine w_push kc_1 ?_
  refine w_add ?_
  refine w_xs (j := 1) (by omega) hx ?_
  refine w_aload rfl ?_
  refine w_iload rfl ?_
  refine w_push kc_2 ?_
  refine w_add ?_
  refine w_xs (j := 1) (by omega) hx ?_
  refine w_aload rfl ?_
  refine w_iload rfl ?_
  refine w_push kc_3 ?_
  refine w_add ?_
  refine w_xs (j := 1) (by omega) hx ?_
  refine w_callV3I (oj_0 _).choose_spec rfl (c_X8_stone (d := 93) ok (by omega) (by omega) (by omega) (by omega) (by omega) (by omega)) ?_
  rintro z1 t1 ⟨ok1, fq1, hp1⟩
  have hl1 := fq1.len
  have fd1 := fq1.toD
  have f1 := fd1
  have h1 : ∀ p ∈ [(1, 10), (2, 100), (3, 100), (4, 100), (5, 100), (6, 100), (9, 100)], p.1 < 68 := by decide
  have wf1 := wf.sm (grA f1 h1 69 (by decide))
  have wg1 := wg.sm (grA f1 h1 70 (by decide))
  have sl1 := sl_sm sl (grA f1 h1 86 (by decide)) (grA f1 h1 87 (by decide))
  have k69 := grA f1 h1 69 (by decide)
  have k1 := k69 1
  have k2 := k69 2
  refine w_popI ?_
  refine w_aload rfl ?_
  refine w_aload rfl ?_
  refine w_iload rfl ?_
  refine w_push kc_1 ?_
  refine w_add ?_
  refine w_xs (j := 1) (by omega) hx ?_
  refine w_aload rfl ?_
  refine w_iload rfl ?_
  refine w_push kc_2 ?_
  refine w_add ?_
  refine w_xs (j := 1) (by omega) hx ?_
  refine w_aload rfl ?_
  refine w_iload rfl ?_
  refine w_push kc_3 ?_
  refine w_add ?_
  refine w_xs (j := 1) (by omega) hx ?_
  refine w_callV3I (oj_68 _).choose_spec rfl (c_X9_stone (d := 98) ok1 (by omega) (by omega) (by omega) (by omega) (by omega) (by omega)) ?_
  rintro z2 t2 ⟨ok2, fq2, hp2⟩
  have hl2 := fq2.len
  have fd2 := fq2.toD
  have h2 : ∀ p ∈ [(69, 100)], 68 ≤ p.1 := by decide
  have wg2 := wg1.sm (fq2.2.1 70 (by simp))
  have sl2 := sl_sm sl1 (fq2.2.1 86 (by simp)) (fq2.2.1 87 (by simp))
  have o3 := fq2.2.1 70 (by simp) 1
  have o4 := fq2.2.1 70 (by simp) 2
  have o5 := fq2.1 68 3 (by simp)
  have l2 : ((¬ (0 ≤ (xz xs (i + 1)) ∧ (xz xs (i + 1)) ≤ 5 ∧ 0 ≤ (xz xs (i + 2)) ∧ (xz xs (i + 2)) ≤ 6 ∧ 0 ≤ (xz xs (i + 3)) ∧ (xz xs (i + 3)) ≤ 6)) ∧ z2 = -1000000001 ∧ tA t2 69 1 = tA t1 69 1) ∨ ((0 ≤ (xz xs (i + 1)) ∧ (xz xs (i + 1)) ≤ 5 ∧ 0 ≤ (xz xs (i + 2)) ∧ (xz xs (i + 2)) ≤ 6 ∧ 0 ≤ (xz xs (i + 3)) ∧ (xz xs (i + 3)) ≤ 6) ∧ tA t1 69 1 = 12 ∧ z2 = -1000000003 ∧ tA t2 69 1 = tA t1 69 1) ∨ ((0 ≤ (xz xs (i + 1)) ∧ (xz xs (i + 1)) ≤ 5 ∧ 0 ≤ (xz xs (i + 2)) ∧ (xz xs (i + 2)) ≤ 6 ∧ 0 ≤ (xz xs (i + 3)) ∧ (xz xs (i + 3)) ≤ 6) ∧ tA t1 69 1 < 12 ∧ z2 = tA t1 69 1 ∧ tA t2 69 1 = tA t1 69 1 + 1) := by
    rcases hp2 with h | h | h
    · exact Or.inl ⟨h.1, h.2.1, by rw [h.2.2]⟩
    · exact Or.inr (Or.inl ⟨h.1, h.2.1, h.2.2.1, by rw [h.2.2.2]⟩)
    · exact Or.inr (Or.inr ⟨h.1, h.2.1, h.2.2.1, h.2.2.2.1⟩)
  have h69 : ∀ j, (j = 2 ∨ j = 4 ∨ 89 ≤ j) → tA t2 69 j = tA t1 69 j := by
    intro j hj
    rcases hp2 with h | h | h
    · rw [h.2.2]
    · rw [h.2.2.2]
    · exact h.2.2.2.2.2.2.2 j (by omega) (by have h1 := h.2.1; omega)
  have wf2 := wf1.same (fun j hj => h69 j (by omega))
  have o2 := h69 2 (by omega)
  refine w_popI ?_
  refine w_goto ?_
  obtain ⟨zz, n1⟩ := br_2 fd1 fd2 g1 hp1 hp2
  have k9 := frI fd2 h2 0 9 (by decide)
  have k8 := f1.1 0 9 (by simp)
  have n2 : ¬ tI t2 0 9 = 0 → RG t2 t2 12 13 14 15 19 70 := fun hk => RG.st (g2 (fun q => hk (by rw [k9, k8, q]))) f1 fd2 h1 (by decide) (by simp [gX]) (by simp [gX]) (fd2.2.1 70 (by simp))
  have ns := RS.st rs f1 fd2 h1 h2 (by decide) (by decide)
  have nl := RW.st rl f1 fd2 h1 h2 (by decide) (by decide)
  have nm := RM.st rm f1 fd2 h1 h2 (by simp [mX]) (by simp [mY])
  have y1 := frI fd2 h2 1 13 (by decide)
  have y2 := frI fd2 h2 12 13 (by decide)
  have l1 := f1.1 1 13 (by simp)
  have l2 := f1.1 12 13 (by simp)
  have d1 : 0 ≤ tI t2 1 13 ∧ tI t2 1 13 ≤ 9999 := by omega
  have d2 : 0 ≤ tI t2 12 13 ∧ tI t2 12 13 ≤ 9999 := by omega
  exact key t2 ⟨ok2, wf2, wg2, d1, d2, sl2, n1, n2, ns, nl, nm, by omega⟩
set_option maxRecDepth 100000 in
theorem lw_3 {xs : List Int32} {i : Int} {N m : Nat} {t : TS} {P : Option Value → ab_W → Prop} (hi : 0 ≤ i ∧ i + 6 ≤ xs.length) (hx : xs.length ≤ 3072) (v : INV m t) (hm : m ≤ 600) (key : ∀ t', INV (m + 1) t' → Rn (bL_law xs (EX FU 100)) N 46 [some (.ref 1000001), some (.ref 0), some (.ref 68), some (.int (jI i))] [] (mk t') P) : Rn (bL_law xs (EX FU 100)) (N + 1) 3 [some (.ref 1000001), some (.ref 0), some (.ref 68), some (.int (jI i))] [] (mk t) P := by
  obtain ⟨ok, wf, wg, c1, c2, sl, g1, g2, rs, rl, rm, dl⟩ := v
  have s12 := ok.f fe_1_10
  have s13 := ok.f fe_12_10
  have i1 := g1.1.1
  have i3 := g1.1.2.2.1
  have x1 := xz_jr xs (i + 1)
  have x2 := xz_jr xs (i + 2)
  refine w_step rfl ?_
  refine w_aload rfl ?_
  refine w_aload rfl ?_
  refine w_iload rfl ?_
  refine w_push kc_1 ?_
  refine w_add ?_
  refine w_xs (j := 1) (by omega) hx ?_
  refine w_aload rfl ?_
  refine w_iload rfl ?_
  refine w_push kc_2 ?_
  refine w_add ?_
  refine w_xs (j := 1) (by omega) hx ?_
  refine w_callV2I (oj_0 _).choose_spec rfl (c_X8_told (d := 97) ok (by omega) (by omega) (by omega) (by omega)) ?_
  rintro z1 t1 ⟨tt1, hp1⟩
  have ok1 : OK t1 := tt1 ▸ ok
  have fd1 : FrD [] t t1 := tt1 ▸ FrD.rf t
  have hl1 : (tD t1).length = (tD t).length := by rw [tt1]
  have f1 := fd1
  have h1 : ∀ p ∈ ([] : List (Nat × Nat)), p.1 < 68 := by simp
  have wf1 := wf.sm (grA f1 h1 69 (by decide))
  have wg1 := wg.sm (grA f1 h1 70 (by decide))
  have sl1 := sl_sm sl (grA f1 h1 86 (by decide)) (grA f1 h1 87 (by decide))
  have k69 := grA f1 h1 69 (by decide)
  have k1 := k69 1
  have k2 := k69 2
  refine w_popI ?_
  refine w_aload rfl ?_
  refine w_aload rfl ?_
  refine w_iload rfl ?_
  refine w_push kc_1 ?_
  refine w_add ?_
  refine w_xs (j := 1) (by omega) hx ?_
  refine w_aload rfl ?_
  refine w_iload rfl ?_
  refine w_push kc_2 ?_
  refine w_add ?_
  refine w_xs (j := 1) (by omega) hx ?_
  refine w_callV2I (oj_68 _).choose_spec rfl (c_X9_told (d := 97) ok1 (by omega) (by omega) (by omega) (by omega)) ?_
  rintro z2 t2 ⟨tt2, hp2⟩
  have ok2 : OK t2 := tt2 ▸ ok1
  have fd2 : FrD [] t1 t2 := tt2 ▸ FrD.rf t1
  have hl2 : (tD t2).length = (tD t1).length := by rw [tt2]
  have h2 : ∀ p ∈ ([] : List (Nat × Nat)), 68 ≤ p.1 := by simp
  have wf2 := wf1.sm (fd2.2.1 69 (by simp))
  have wg2 := wg1.sm (fd2.2.1 70 (by simp))
  have sl2 := sl_sm sl1 (fd2.2.1 86 (by simp)) (fd2.2.1 87 (by simp))
  refine w_popI ?_
  refine w_goto ?_
  have n1 := RG.st g1 f1 fd2 h1 (by decide) (by simp [gX]) (by simp [gX]) (fd2.2.1 69 (by simp))
  have k9 := frI fd2 h2 0 9 (by decide)
  have k8 := f1.1 0 9 (by simp)
  have n2 : ¬ tI t2 0 9 = 0 → RG t2 t2 12 13 14 15 19 70 := fun hk => RG.st (g2 (fun q => hk (by rw [k9, k8, q]))) f1 fd2 h1 (by decide) (by simp [gX]) (by simp [gX]) (fd2.2.1 70 (by simp))
  have ns := RS.st rs f1 fd2 h1 h2 (by simp) (by simp)
  have nl := RW.st rl f1 fd2 h1 h2 (by simp) (by simp)
  have nm := RM.st rm f1 fd2 h1 h2 (by simp [mX]) (by simp [mY])
  have y1 := frI fd2 h2 1 13 (by decide)
  have y2 := frI fd2 h2 12 13 (by decide)
  have l1 := f1.1 1 13 (by simp)
  have l2 := f1.1 12 13 (by simp)
  have d1 : 0 ≤ tI t2 1 13 ∧ tI t2 1 13 ≤ 9999 := by omega
  have d2 : 0 ≤ tI t2 12 13 ∧ tI t2 12 13 ≤ 9999 := by omega
  exact key t2 ⟨ok2, wf2, wg2, d1, d2, sl2, n1, n2, ns, nl, nm, by omega⟩
set_option maxRecDepth 100000 in
theorem lw_4 {xs : List Int32} {i : Int} {N m : Nat} {t : TS} {P : Option Value → ab_W → Prop} (hi : 0 ≤ i ∧ i + 6 ≤ xs.length) (hx : xs.length ≤ 3072) (v : INV m t) (hm : m ≤ 600) (key : ∀ t', INV (m + 1) t' → Rn (bL_law xs (EX FU 100)) N 46 [some (.ref 1000001), some (.ref 0), some (.ref 68), some (.int (jI i))] [] (mk t') P) : Rn (bL_law xs (EX FU 100)) (N + 1) 4 [some (.ref 1000001), some (.ref 0), some (.ref 68), some (.int (jI i))] [] (mk t) P := by
  obtain ⟨ok, wf, wg, c1, c2, sl, g1, g2, rs, rl, rm, dl⟩ := v
  have s12 := ok.f fe_1_10
  have s13 := ok.f fe_12_10
  have i1 := g1.1.1
  have i3 := g1.1.2.2.1
  have x1 := xz_jr xs (i + 1)
  have x2 := xz_jr xs (i + 2)
  have x3 := xz_jr xs (i + 3)
  refine w_step rfl ?_
  refine w_aload rfl ?_
  refine w_aload rfl ?_
  refine w_iload rfl ?_
  refine w_push kc_1 ?_
  refine w_add ?_
  refine w_xs (j := 1) (by omega) hx ?_
  refine w_aload rfl ?_
  refine w_iload rfl ?_
  refine w_push kc_2 ?_
  refine w_add ?_
  refine w_xs (j := 1) (by omega) hx ?_
  refine w_aload rfl ?_
  refine w_iload rfl ?_
  refine w_push kc_3 ?_
  refine w_add ?_
  refine w_xs (j := 1) (by omega) hx ?_
  refine w_callV3I (oj_0 _).choose_spec rfl (c_X8_off (d := 97) ok (by omega) (by omega) (by omega) (by omega) (by omega) (by omega)) ?_
  rintro z1 t1 ⟨tt1, hp1⟩
  have ok1 : OK t1 := tt1 ▸ ok
  have fd1 : FrD [] t t1 := tt1 ▸ FrD.rf t
  have hl1 : (tD t1).length = (tD t).length := by rw [tt1]
  have f1 := fd1
  have h1 : ∀ p ∈ ([] : List (Nat × Nat)), p.1 < 68 := by simp
  have wf1 := wf.sm (grA f1 h1 69 (by decide))
  have wg1 := wg.sm (grA f1 h1 70 (by decide))
  have sl1 := sl_sm sl (grA f1 h1 86 (by decide)) (grA f1 h1 87 (by decide))
  have k69 := grA f1 h1 69 (by decide)
  have k1 := k69 1
  have k2 := k69 2
  refine w_popI ?_
  refine w_aload rfl ?_
  refine w_aload rfl ?_
  refine w_iload rfl ?_
  refine w_push kc_1 ?_
  refine w_add ?_
  refine w_xs (j := 1) (by omega) hx ?_
  refine w_aload rfl ?_
  refine w_iload rfl ?_
  refine w_push kc_2 ?_
  refine w_add ?_
  refine w_xs (j := 1) (by omega) hx ?_
  refine w_aload rfl ?_
  refine w_iload rfl ?_
  refine w_push kc_3 ?_
  refine w_add ?_
  refine w_xs (j := 1) (by omega) hx ?_
  refine w_callV3I (oj_68 _).choose_spec rfl (c_X9_off (d := 95) ok1 wf1 (by omega) (by omega) (by omega) (by omega) (by omega) (by omega)) ?_
  rintro z2 t2 ⟨ok2, fq2, hp2⟩
  have hl2 := fq2.len
  have fd2 := fq2.toD
  have h2 : ∀ p ∈ [(81, 100), (82, 100)], 68 ≤ p.1 := by decide
  have wf2 := wf1.sm (fd2.2.1 69 (by simp))
  have wg2 := wg1.sm (fd2.2.1 70 (by simp))
  have sl2 := sl_sm sl1 (fd2.2.1 86 (by simp)) (fd2.2.1 87 (by simp))
  refine w_popI ?_
  refine w_goto ?_
  have n1 := RG.st g1 f1 fd2 h1 (by decide) (by simp [gX]) (by simp [gX]) (fd2.2.1 69 (by simp))
  have k9 := frI fd2 h2 0 9 (by decide)
  have k8 := f1.1 0 9 (by simp)
  have n2 : ¬ tI t2 0 9 = 0 → RG t2 t2 12 13 14 15 19 70 := fun hk => RG.st (g2 (fun q => hk (by rw [k9, k8, q]))) f1 fd2 h1 (by decide) (by simp [gX]) (by simp [gX]) (fd2.2.1 70 (by simp))
  have ns := RS.st rs f1 fd2 h1 h2 (by simp) (by decide)
  have nl := RW.st rl f1 fd2 h1 h2 (by simp) (by decide)
  have nm := RM.st rm f1 fd2 h1 h2 (by simp [mX]) (by simp [mY])
  have y1 := frI fd2 h2 1 13 (by decide)
  have y2 := frI fd2 h2 12 13 (by decide)
  have l1 := f1.1 1 13 (by simp)
  have l2 := f1.1 12 13 (by simp)
  have d1 : 0 ≤ tI t2 1 13 ∧ tI t2 1 13 ≤ 9999 := by omega
  have d2 : 0 ≤ tI t2 12 13 ∧ tI t2 12 13 ≤ 9999 := by omega
  exact key t2 ⟨ok2, wf2, wg2, d1, d2, sl2, n1, n2, ns, nl, nm, by omega⟩
set_option maxRecDepth 100000 in
theorem lw_5 {xs : List Int32} {i : Int} {N m : Nat} {t : TS} {P : Option Value → ab_W → Prop} (hi : 0 ≤ i ∧ i + 6 ≤ xs.length) (hx : xs.length ≤ 3072) (v : INV m t) (hm : m ≤ 600) (key : ∀ t', INV (m + 1) t' → Rn (bL_law xs (EX FU 100)) N 46 [some (.ref 1000001), some (.ref 0), some (.ref 68), some (.int (jI i))] [] (mk t') P) : Rn (bL_law xs (EX FU 100)) (N + 1) 5 [some (.ref 1000001), some (.ref 0), some (.ref 68), some (.int (jI i))] [] (mk t) P := by
  obtain ⟨ok, wf, wg, c1, c2, sl, g1, g2, rs, rl, rm, dl⟩ := v
  have s12 := ok.f fe_1_10
  have s13 := ok.f fe_12_10
  have i1 := g1.1.1
  have i3 := g1.1.2.2.1
  have x1 := xz_jr xs (i + 1)
  have x2 := xz_jr xs (i + 2)
  refine w_step rfl ?_
  refine w_aload rfl ?_
  refine w_aload rfl ?_
  refine w_iload rfl ?_
  refine w_push kc_1 ?_
  refine w_add ?_
  refine w_xs (j := 1) (by omega) hx ?_
  refine w_aload rfl ?_
  refine w_iload rfl ?_
  refine w_push kc_2 ?_
  refine w_add ?_
  refine w_xs (j := 1) (by omega) hx ?_
  refine w_callV2I (oj_0 _).choose_spec rfl (c_X8_as (d := 97) ok (by omega) (by omega) (by omega) (by omega)) ?_
  rintro z1 t1 ⟨tt1, hp1⟩
  have ok1 : OK t1 := tt1 ▸ ok
  have fd1 : FrD [] t t1 := tt1 ▸ FrD.rf t
  have hl1 : (tD t1).length = (tD t).length := by rw [tt1]
  have f1 := fd1
  have h1 : ∀ p ∈ ([] : List (Nat × Nat)), p.1 < 68 := by simp
  have wf1 := wf.sm (grA f1 h1 69 (by decide))
  have wg1 := wg.sm (grA f1 h1 70 (by decide))
  have sl1 := sl_sm sl (grA f1 h1 86 (by decide)) (grA f1 h1 87 (by decide))
  have k69 := grA f1 h1 69 (by decide)
  have k1 := k69 1
  have k2 := k69 2
  refine w_popI ?_
  refine w_aload rfl ?_
  refine w_aload rfl ?_
  refine w_iload rfl ?_
  refine w_push kc_1 ?_
  refine w_add ?_
  refine w_xs (j := 1) (by omega) hx ?_
  refine w_aload rfl ?_
  refine w_iload rfl ?_
  refine w_push kc_2 ?_
  refine w_add ?_
  refine w_xs (j := 1) (by omega) hx ?_
  refine w_callV2I (oj_68 _).choose_spec rfl (c_X9_as (d := 97) ok1 (by omega) (by omega) (by omega) (by omega)) ?_
  rintro z2 t2 ⟨tt2, hp2⟩
  have ok2 : OK t2 := tt2 ▸ ok1
  have fd2 : FrD [] t1 t2 := tt2 ▸ FrD.rf t1
  have hl2 : (tD t2).length = (tD t1).length := by rw [tt2]
  have h2 : ∀ p ∈ ([] : List (Nat × Nat)), 68 ≤ p.1 := by simp
  have wf2 := wf1.sm (fd2.2.1 69 (by simp))
  have wg2 := wg1.sm (fd2.2.1 70 (by simp))
  have sl2 := sl_sm sl1 (fd2.2.1 86 (by simp)) (fd2.2.1 87 (by simp))
  refine w_popI ?_
  refine w_goto ?_
  have zz := br_5 fd1 fd2 g1 hp1 hp2
  have n1 := RG.st g1 f1 fd2 h1 (by decide) (by simp [gX]) (by simp [gX]) (fd2.2.1 69 (by simp))
  have k9 := frI fd2 h2 0 9 (by decide)
  have k8 := f1.1 0 9 (by simp)
  have n2 : ¬ tI t2 0 9 = 0 → RG t2 t2 12 13 14 15 19 70 := fun hk => RG.st (g2 (fun q => hk (by rw [k9, k8, q]))) f1 fd2 h1 (by decide) (by simp [gX]) (by simp [gX]) (fd2.2.1 70 (by simp))
  have ns := RS.st rs f1 fd2 h1 h2 (by simp) (by simp)
  have nl := RW.st rl f1 fd2 h1 h2 (by simp) (by simp)
  have nm := RM.st rm f1 fd2 h1 h2 (by simp [mX]) (by simp [mY])
  have y1 := frI fd2 h2 1 13 (by decide)
  have y2 := frI fd2 h2 12 13 (by decide)
  have l1 := f1.1 1 13 (by simp)
  have l2 := f1.1 12 13 (by simp)
  have d1 : 0 ≤ tI t2 1 13 ∧ tI t2 1 13 ≤ 9999 := by omega
  have d2 : 0 ≤ tI t2 12 13 ∧ tI t2 12 13 ≤ 9999 := by omega
  exact key t2 ⟨ok2, wf2, wg2, d1, d2, sl2, n1, n2, ns, nl, nm, by omega⟩
set_option maxRecDepth 100000 in
theorem lw_6 {xs : List Int32} {i : Int} {N m : Nat} {t : TS} {P : Option Value → ab_W → Prop} (hi : 0 ≤ i ∧ i + 6 ≤ xs.length) (hx : xs.length ≤ 3072) (v : INV m t) (hm : m ≤ 600) (key : ∀ t', INV (m + 1) t' → Rn (bL_law xs (EX FU 100)) N 46 [some (.ref 1000001), some (.ref 0), some (.ref 68), some (.int (jI i))] [] (mk t') P) : Rn (bL_law xs (EX FU 100)) (N + 1) 6 [some (.ref 1000001), some (.ref 0), some (.ref 68), some (.int (jI i))] [] (mk t) P := by
  obtain ⟨ok, wf, wg, c1, c2, sl, g1, g2, rs, rl, rm, dl⟩ := v
  have s12 := ok.f fe_1_10
  have s13 := ok.f fe_12_10
  have i1 := g1.1.1
  have i3 := g1.1.2.2.1
  have x1 := xz_jr xs (i + 1)
  have x2 := xz_jr xs (i + 2)
  refine w_step rfl ?_
  refine w_aload rfl ?_
  refine w_aload rfl ?_
  refine w_iload rfl ?_
  refine w_push kc_1 ?_
  refine w_add ?_
  refine w_xs (j := 1) (by omega) hx ?_
  refine w_aload rfl ?_
  refine w_iload rfl ?_
  refine w_push kc_2 ?_
  refine w_add ?_
  refine w_xs (j := 1) (by omega) hx ?_
  refine w_callV2I (oj_0 _).choose_spec rfl (c_X8_turns (d := 94) ok (by omega) (by omega) (by omega) (by omega)) ?_
  rintro z1 t1 ⟨ok1, fq1, hp1⟩
  have hl1 := fq1.len
  have fd1 := fq1.toD
  have f1 := fd1
  have h1 : ∀ p ∈ [(2, 100), (9, 100)], p.1 < 68 := by decide
  have wf1 := wf.sm (grA f1 h1 69 (by decide))
  have wg1 := wg.sm (grA f1 h1 70 (by decide))
  have sl1 := sl_sm sl (grA f1 h1 86 (by decide)) (grA f1 h1 87 (by decide))
  have k69 := grA f1 h1 69 (by decide)
  have k1 := k69 1
  have k2 := k69 2
  refine w_popI ?_
  refine w_aload rfl ?_
  refine w_aload rfl ?_
  refine w_iload rfl ?_
  refine w_push kc_1 ?_
  refine w_add ?_
  refine w_xs (j := 1) (by omega) hx ?_
  refine w_aload rfl ?_
  refine w_iload rfl ?_
  refine w_push kc_2 ?_
  refine w_add ?_
  refine w_xs (j := 1) (by omega) hx ?_
  refine w_callV2I (oj_68 _).choose_spec rfl (c_X9_turns (d := 97) ok1 (by omega) (by omega) (by omega) (by omega)) ?_
  rintro z2 t2 ⟨ok2, fq2, hp2⟩
  have hl2 := fq2.len
  have fd2 := fq2.toD
  have h2 : ∀ p ∈ [(69, 100)], 68 ≤ p.1 := by decide
  have wg2 := wg1.sm (fq2.2.1 70 (by simp))
  have sl2 := sl_sm sl1 (fq2.2.1 86 (by simp)) (fq2.2.1 87 (by simp))
  have o3 := fq2.2.1 70 (by simp) 1
  have o4 := fq2.2.1 70 (by simp) 2
  have o5 := fq2.1 68 3 (by simp)
  have h69 : ∀ j, (j = 1 ∨ j = 2 ∨ j = 4 ∨ 89 ≤ j) → tA t2 69 j = tA t1 69 j := by
    intro j hj
    rcases hp2 with h | h
    · rw [h.2.2]
    · rw [h.2.2, tA_uA, if_neg (by have h1 := h.1; omega)]
  have wf2 := wf1.same (fun j hj => h69 j (by omega))
  have o1 := h69 1 (by omega)
  have o2 := h69 2 (by omega)
  refine w_popI ?_
  refine w_goto ?_
  obtain ⟨zz, n1⟩ := br_6 fd1 fd2 g1 hp1 hp2
  have k9 := frI fd2 h2 0 9 (by decide)
  have k8 := f1.1 0 9 (by simp)
  have n2 : ¬ tI t2 0 9 = 0 → RG t2 t2 12 13 14 15 19 70 := fun hk => RG.st (g2 (fun q => hk (by rw [k9, k8, q]))) f1 fd2 h1 (by decide) (by simp [gX]) (by simp [gX]) (fd2.2.1 70 (by simp))
  have ns := RS.st rs f1 fd2 h1 h2 (by decide) (by decide)
  have nl := RW.st rl f1 fd2 h1 h2 (by decide) (by decide)
  have nm := RM.st rm f1 fd2 h1 h2 (by simp [mX]) (by simp [mY])
  have y1 := frI fd2 h2 1 13 (by decide)
  have y2 := frI fd2 h2 12 13 (by decide)
  have l1 := f1.1 1 13 (by simp)
  have l2 := f1.1 12 13 (by simp)
  have d1 : 0 ≤ tI t2 1 13 ∧ tI t2 1 13 ≤ 9999 := by omega
  have d2 : 0 ≤ tI t2 12 13 ∧ tI t2 12 13 ≤ 9999 := by omega
  exact key t2 ⟨ok2, wf2, wg2, d1, d2, sl2, n1, n2, ns, nl, nm, by omega⟩
set_option maxRecDepth 100000 in
theorem lw_7 {xs : List Int32} {i : Int} {N m : Nat} {t : TS} {P : Option Value → ab_W → Prop} (hi : 0 ≤ i ∧ i + 6 ≤ xs.length) (hx : xs.length ≤ 3072) (v : INV m t) (hm : m ≤ 600) (key : ∀ t', INV (m + 1) t' → Rn (bL_law xs (EX FU 100)) N 46 [some (.ref 1000001), some (.ref 0), some (.ref 68), some (.int (jI i))] [] (mk t') P) : Rn (bL_law xs (EX FU 100)) (N + 1) 7 [some (.ref 1000001), some (.ref 0), some (.ref 68), some (.int (jI i))] [] (mk t) P := by
  obtain ⟨ok, wf, wg, c1, c2, sl, g1, g2, rs, rl, rm, dl⟩ := v
  have s12 := ok.f fe_1_10
  have s13 := ok.f fe_12_10
  have i1 := g1.1.1
  have i3 := g1.1.2.2.1
  have x1 := xz_jr xs (i + 1)
  have x2 := xz_jr xs (i + 2)
  have x3 := xz_jr xs (i + 3)
  refine w_step rfl ?_
  refine w_aload rfl ?_
  refine w_aload rfl ?_
  refine w_iload rfl ?_
  refine w_push kc_1 ?_
  refine w_add ?_
  refine w_xs (j := 1) (by omega) hx ?_
  refine w_aload rfl ?_
  refine w_iload rfl ?_
  refine w_push kc_2 ?_
  refine w_add ?_
  refine w_xs (j := 1) (by omega) hx ?_
  refine w_aload rfl ?_
  refine w_iload rfl ?_
  refine w_push kc_3 ?_
  refine w_add ?_
  refine w_xs (j := 1) (by omega) hx ?_
  refine w_callV3I (oj_0 _).choose_spec rfl (c_X8_put (d := 97) ok (by omega) (by omega) (by omega) (by omega) (by omega) (by omega)) ?_
  rintro z1 t1 ⟨ok1, fq1, hp1⟩
  have hl1 := fq1.len
  have fd1 := fq1.toD
  have f1 := fd1
  have h1 : ∀ p ∈ [(5, 100), (6, 100), (7, 100)], p.1 < 68 := by decide
  have wf1 := wf.sm (grA f1 h1 69 (by decide))
  have wg1 := wg.sm (grA f1 h1 70 (by decide))
  have sl1 := sl_sm sl (grA f1 h1 86 (by decide)) (grA f1 h1 87 (by decide))
  have k69 := grA f1 h1 69 (by decide)
  have k1 := k69 1
  have k2 := k69 2
  refine w_popI ?_
  refine w_aload rfl ?_
  refine w_aload rfl ?_
  refine w_iload rfl ?_
  refine w_push kc_1 ?_
  refine w_add ?_
  refine w_xs (j := 1) (by omega) hx ?_
  refine w_aload rfl ?_
  refine w_iload rfl ?_
  refine w_push kc_2 ?_
  refine w_add ?_
  refine w_xs (j := 1) (by omega) hx ?_
  refine w_aload rfl ?_
  refine w_iload rfl ?_
  refine w_push kc_3 ?_
  refine w_add ?_
  refine w_xs (j := 1) (by omega) hx ?_
  refine w_callV3I (oj_68 _).choose_spec rfl (c_X9_put (d := 97) ok1 (by omega) (by omega) (by omega) (by omega) (by omega) (by omega)) ?_
  rintro z2 t2 ⟨ok2, fq2, hp2⟩
  have hl2 := fq2.len
  have fd2 := fq2.toD
  have h2 : ∀ p ∈ [(69, 100)], 68 ≤ p.1 := by decide
  have wg2 := wg1.sm (fq2.2.1 70 (by simp))
  have sl2 := sl_sm sl1 (fq2.2.1 86 (by simp)) (fq2.2.1 87 (by simp))
  have o3 := fq2.2.1 70 (by simp) 1
  have o4 := fq2.2.1 70 (by simp) 2
  have o5 := fq2.1 68 3 (by simp)
  have wf2 := wf1.dq hp2.2.2.1
  have o1 := hp2.2.2.1 1 (by decide) (by decide) (by decide)
  have o2 := hp2.2.2.2.2
  refine w_popI ?_
  refine w_goto ?_
  have n1 := RG.sq g1 f1 fd2 h1 (by decide) (by simp [gX]) (by simp [gX]) (by omega) (fun i hi => by rcases (show i = 0 ∨ i = 2 ∨ (¬ i = 0 ∧ ¬ i = 2) by omega) with q | q | q <;> first | (rw [q]; exact hp2.2.2.2.1) | (rw [q]; exact hp2.2.2.2.2) | exact hp2.2.2.1 i q.1 q.2 (by omega))
  have k9 := frI fd2 h2 0 9 (by decide)
  have k8 := f1.1 0 9 (by simp)
  have n2 : ¬ tI t2 0 9 = 0 → RG t2 t2 12 13 14 15 19 70 := fun hk => RG.st (g2 (fun q => hk (by rw [k9, k8, q]))) f1 fd2 h1 (by decide) (by simp [gX]) (by simp [gX]) (fd2.2.1 70 (by simp))
  have ns := RS.st rs f1 fd2 h1 h2 (by decide) (by decide)
  have nl := RW.st rl f1 fd2 h1 h2 (by decide) (by decide)
  have nm := RM.st rm f1 fd2 h1 h2 (by simp [mX]) (by simp [mY])
  have y1 := frI fd2 h2 1 13 (by decide)
  have y2 := frI fd2 h2 12 13 (by decide)
  have l1 := f1.1 1 13 (by simp)
  have l2 := f1.1 12 13 (by simp)
  have d1 : 0 ≤ tI t2 1 13 ∧ tI t2 1 13 ≤ 9999 := by omega
  have d2 : 0 ≤ tI t2 12 13 ∧ tI t2 12 13 ≤ 9999 := by omega
  exact key t2 ⟨ok2, wf2, wg2, d1, d2, sl2, n1, n2, ns, nl, nm, by omega⟩
set_option maxRecDepth 100000 in
theorem lw_8 {xs : List Int32} {i : Int} {N m : Nat} {t : TS} {P : Option Value → ab_W → Prop} (hi : 0 ≤ i ∧ i + 6 ≤ xs.length) (hx : xs.length ≤ 3072) (v : INV m t) (hm : m ≤ 600) (key : ∀ t', INV (m + 1) t' → Rn (bL_law xs (EX FU 100)) N 46 [some (.ref 1000001), some (.ref 0), some (.ref 68), some (.int (jI i))] [] (mk t') P) : Rn (bL_law xs (EX FU 100)) (N + 1) 8 [some (.ref 1000001), some (.ref 0), some (.ref 68), some (.int (jI i))] [] (mk t) P := by
  obtain ⟨ok, wf, wg, c1, c2, sl, g1, g2, rs, rl, rm, dl⟩ := v
  have s12 := ok.f fe_1_10
  have s13 := ok.f fe_12_10
  have i1 := g1.1.1
  have i3 := g1.1.2.2.1
  have x1 := xz_jr xs (i + 1)
  refine w_step rfl ?_
  refine w_aload rfl ?_
  refine w_aload rfl ?_
  refine w_iload rfl ?_
  refine w_push kc_1 ?_
  refine w_add ?_
  refine w_xs (j := 1) (by omega) hx ?_
  refine w_callV1I (oj_0 _).choose_spec rfl (c_X8_box (d := 97) ok (by omega) (by omega)) ?_
  rintro z1 t1 ⟨ok1, fq1, hp1⟩
  have hl1 := fq1.len
  have fd1 := fq1.toD
  have f1 := fd1
  have h1 : ∀ p ∈ [(5, 100), (7, 100)], p.1 < 68 := by decide
  have wf1 := wf.sm (grA f1 h1 69 (by decide))
  have wg1 := wg.sm (grA f1 h1 70 (by decide))
  have sl1 := sl_sm sl (grA f1 h1 86 (by decide)) (grA f1 h1 87 (by decide))
  have k69 := grA f1 h1 69 (by decide)
  have k1 := k69 1
  have k2 := k69 2
  refine w_popI ?_
  refine w_aload rfl ?_
  refine w_aload rfl ?_
  refine w_iload rfl ?_
  refine w_push kc_1 ?_
  refine w_add ?_
  refine w_xs (j := 1) (by omega) hx ?_
  refine w_callV1I (oj_68 _).choose_spec rfl (c_X9_box (d := 97) ok1 (by omega) (by omega)) ?_
  rintro z2 t2 ⟨ok2, fq2, hp2⟩
  have hl2 := fq2.len
  have fd2 := fq2.toD
  have h2 : ∀ p ∈ [(69, 100)], 68 ≤ p.1 := by decide
  have wg2 := wg1.sm (fq2.2.1 70 (by simp))
  have sl2 := sl_sm sl1 (fq2.2.1 86 (by simp)) (fq2.2.1 87 (by simp))
  have o3 := fq2.2.1 70 (by simp) 1
  have o4 := fq2.2.1 70 (by simp) 2
  have o5 := fq2.1 68 3 (by simp)
  have wf2 := wf1.dq hp2.2.2.1
  have o1 := hp2.2.2.1 1 (by decide) (by decide) (by decide)
  have o2 := hp2.2.2.2.2
  refine w_popI ?_
  refine w_goto ?_
  have n1 := RG.sq g1 f1 fd2 h1 (by decide) (by simp [gX]) (by simp [gX]) (by omega) (fun i hi => by rcases (show i = 0 ∨ i = 2 ∨ (¬ i = 0 ∧ ¬ i = 2) by omega) with q | q | q <;> first | (rw [q]; exact hp2.2.2.2.1) | (rw [q]; exact hp2.2.2.2.2) | exact hp2.2.2.1 i q.1 q.2 (by omega))
  have k9 := frI fd2 h2 0 9 (by decide)
  have k8 := f1.1 0 9 (by simp)
  have n2 : ¬ tI t2 0 9 = 0 → RG t2 t2 12 13 14 15 19 70 := fun hk => RG.st (g2 (fun q => hk (by rw [k9, k8, q]))) f1 fd2 h1 (by decide) (by simp [gX]) (by simp [gX]) (fd2.2.1 70 (by simp))
  have ns := RS.st rs f1 fd2 h1 h2 (by decide) (by decide)
  have nl := RW.st rl f1 fd2 h1 h2 (by decide) (by decide)
  have nm := RM.st rm f1 fd2 h1 h2 (by simp [mX]) (by simp [mY])
  have y1 := frI fd2 h2 1 13 (by decide)
  have y2 := frI fd2 h2 12 13 (by decide)
  have l1 := f1.1 1 13 (by simp)
  have l2 := f1.1 12 13 (by simp)
  have d1 : 0 ≤ tI t2 1 13 ∧ tI t2 1 13 ≤ 9999 := by omega
  have d2 : 0 ≤ tI t2 12 13 ∧ tI t2 12 13 ≤ 9999 := by omega
  exact key t2 ⟨ok2, wf2, wg2, d1, d2, sl2, n1, n2, ns, nl, nm, by omega⟩
set_option maxRecDepth 100000 in
theorem lw_9 {xs : List Int32} {i : Int} {N m : Nat} {t : TS} {P : Option Value → ab_W → Prop} (hi : 0 ≤ i ∧ i + 6 ≤ xs.length) (hx : xs.length ≤ 3072) (v : INV m t) (hm : m ≤ 600) (key : ∀ t', INV (m + 1) t' → Rn (bL_law xs (EX FU 100)) N 46 [some (.ref 1000001), some (.ref 0), some (.ref 68), some (.int (jI i))] [] (mk t') P) : Rn (bL_law xs (EX FU 100)) (N + 1) 9 [some (.ref 1000001), some (.ref 0), some (.ref 68), some (.int (jI i))] [] (mk t) P := by
  obtain ⟨ok, wf, wg, c1, c2, sl, g1, g2, rs, rl, rm, dl⟩ := v
  have s12 := ok.f fe_1_10
  have s13 := ok.f fe_12_10
  have i1 := g1.1.1
  have i3 := g1.1.2.2.1
  have x1 := xz_jr xs (i + 1)
  have x2 := xz_jr xs (i + 2)
  refine w_step rfl ?_
  refine w_aload rfl ?_
  refine w_aload rfl ?_
  refine w_iload rfl ?_
  refine w_push kc_1 ?_
  refine w_add ?_
  refine w_xs (j := 1) (by omega) hx ?_
  refine w_aload rfl ?_
  refine w_iload rfl ?_
  refine w_push kc_2 ?_
  refine w_add ?_
  refine w_xs (j := 1) (by omega) hx ?_
  refine w_callV2I (oj_0 _).choose_spec rfl (c_X8_want (d := 98) ok (by omega) (by omega) (by omega) (by omega)) ?_
  rintro z1 t1 ⟨ok1, fq1, hp1⟩
  have hl1 := fq1.len
  have fd1 := fq1.toD
  have f1 := fd1
  have h1 : ∀ p ∈ [(8, 100)], p.1 < 68 := by decide
  have wf1 := wf.sm (grA f1 h1 69 (by decide))
  have wg1 := wg.sm (grA f1 h1 70 (by decide))
  have sl1 := sl_sm sl (grA f1 h1 86 (by decide)) (grA f1 h1 87 (by decide))
  have k69 := grA f1 h1 69 (by decide)
  have k1 := k69 1
  have k2 := k69 2
  refine w_popI ?_
  refine w_aload rfl ?_
  refine w_aload rfl ?_
  refine w_iload rfl ?_
  refine w_push kc_1 ?_
  refine w_add ?_
  refine w_xs (j := 1) (by omega) hx ?_
  refine w_aload rfl ?_
  refine w_iload rfl ?_
  refine w_push kc_2 ?_
  refine w_add ?_
  refine w_xs (j := 1) (by omega) hx ?_
  refine w_callV2I (oj_68 _).choose_spec rfl (c_X9_want (d := 98) ok1 (by omega) (by omega) (by omega) (by omega)) ?_
  rintro z2 t2 ⟨ok2, fq2, hp2⟩
  have hl2 := fq2.len
  have fd2 := fq2.toD
  have h2 : ∀ p ∈ [(69, 100)], 68 ≤ p.1 := by decide
  have wg2 := wg1.sm (fq2.2.1 70 (by simp))
  have sl2 := sl_sm sl1 (fq2.2.1 86 (by simp)) (fq2.2.1 87 (by simp))
  have o3 := fq2.2.1 70 (by simp) 1
  have o4 := fq2.2.1 70 (by simp) 2
  have o5 := fq2.1 68 3 (by simp)
  have h69 : ∀ j, (j = 1 ∨ j = 2 ∨ j = 4 ∨ 89 ≤ j) → tA t2 69 j = tA t1 69 j := by
    intro j hj
    rcases hp2 with h | h
    · rw [h.2.2]
    · rw [h.2.2, tA_uA, if_neg (by have h1 := h.1; omega)]
  have wf2 := wf1.same (fun j hj => h69 j (by omega))
  have o1 := h69 1 (by omega)
  have o2 := h69 2 (by omega)
  refine w_popI ?_
  refine w_goto ?_
  obtain ⟨zz, n1⟩ := br_9 fd1 fd2 g1 hp1 hp2
  have k9 := frI fd2 h2 0 9 (by decide)
  have k8 := f1.1 0 9 (by simp)
  have n2 : ¬ tI t2 0 9 = 0 → RG t2 t2 12 13 14 15 19 70 := fun hk => RG.st (g2 (fun q => hk (by rw [k9, k8, q]))) f1 fd2 h1 (by decide) (by simp [gX]) (by simp [gX]) (fd2.2.1 70 (by simp))
  have ns := RS.st rs f1 fd2 h1 h2 (by decide) (by decide)
  have nl := RW.st rl f1 fd2 h1 h2 (by decide) (by decide)
  have nm := RM.st rm f1 fd2 h1 h2 (by simp [mX]) (by simp [mY])
  have y1 := frI fd2 h2 1 13 (by decide)
  have y2 := frI fd2 h2 12 13 (by decide)
  have l1 := f1.1 1 13 (by simp)
  have l2 := f1.1 12 13 (by simp)
  have d1 : 0 ≤ tI t2 1 13 ∧ tI t2 1 13 ≤ 9999 := by omega
  have d2 : 0 ≤ tI t2 12 13 ∧ tI t2 12 13 ≤ 9999 := by omega
  exact key t2 ⟨ok2, wf2, wg2, d1, d2, sl2, n1, n2, ns, nl, nm, by omega⟩
set_option maxRecDepth 100000 in
theorem lw_10 {xs : List Int32} {i : Int} {N m : Nat} {t : TS} {P : Option Value → ab_W → Prop} (hi : 0 ≤ i ∧ i + 6 ≤ xs.length) (hx : xs.length ≤ 3072) (v : INV m t) (hm : m ≤ 600) (key : ∀ t', INV (m + 1) t' → Rn (bL_law xs (EX FU 100)) N 46 [some (.ref 1000001), some (.ref 0), some (.ref 68), some (.int (jI i))] [] (mk t') P) : Rn (bL_law xs (EX FU 100)) (N + 1) 10 [some (.ref 1000001), some (.ref 0), some (.ref 68), some (.int (jI i))] [] (mk t) P := by
  obtain ⟨ok, wf, wg, c1, c2, sl, g1, g2, rs, rl, rm, dl⟩ := v
  have s12 := ok.f fe_1_10
  have s13 := ok.f fe_12_10
  have i1 := g1.1.1
  have i3 := g1.1.2.2.1
  have x1 := xz_jr xs (i + 1)
  refine w_step rfl ?_
  refine w_aload rfl ?_
  refine w_aload rfl ?_
  refine w_iload rfl ?_
  refine w_push kc_1 ?_
  refine w_add ?_
  refine w_xs (j := 1) (by omega) hx ?_
  refine w_callV1I (oj_0 _).choose_spec rfl (c_X8_wind (d := 98) ok (by omega) (by omega)) ?_
  rintro z1 t1 ⟨ok1, fq1, hp1⟩
  have hl1 := fq1.len
  have fd1 := fq1.toD
  have f1 := fd1
  have h1 : ∀ p ∈ [(1, 12)], p.1 < 68 := by decide
  have wf1 := wf.sm (grA f1 h1 69 (by decide))
  have wg1 := wg.sm (grA f1 h1 70 (by decide))
  have sl1 := sl_sm sl (grA f1 h1 86 (by decide)) (grA f1 h1 87 (by decide))
  have k69 := grA f1 h1 69 (by decide)
  have k1 := k69 1
  have k2 := k69 2
  refine w_popI ?_
  refine w_aload rfl ?_
  refine w_aload rfl ?_
  refine w_iload rfl ?_
  refine w_push kc_1 ?_
  refine w_add ?_
  refine w_xs (j := 1) (by omega) hx ?_
  refine w_callV1I (oj_68 _).choose_spec rfl (c_X9_wind (d := 98) ok1 (by omega) (by omega)) ?_
  rintro z2 t2 ⟨ok2, fq2, hp2⟩
  have hl2 := fq2.len
  have fd2 := fq2.toD
  have h2 : ∀ p ∈ [(69, 100)], 68 ≤ p.1 := by decide
  have wg2 := wg1.sm (fq2.2.1 70 (by simp))
  have sl2 := sl_sm sl1 (fq2.2.1 86 (by simp)) (fq2.2.1 87 (by simp))
  have o3 := fq2.2.1 70 (by simp) 1
  have o4 := fq2.2.1 70 (by simp) 2
  have o5 := fq2.1 68 3 (by simp)
  have h69 : ∀ j, (j = 1 ∨ j = 2 ∨ j = 4 ∨ 89 ≤ j) → tA t2 69 j = tA t1 69 j := by
    intro j hj
    rcases hp2 with h | h
    · rw [h.2.2]
    · rw [h.2.2, tA_uA, if_neg (by have h1 := h.1; omega)]
  have wf2 := wf1.same (fun j hj => h69 j (by omega))
  have o1 := h69 1 (by omega)
  have o2 := h69 2 (by omega)
  refine w_popI ?_
  refine w_goto ?_
  obtain ⟨zz, n1⟩ := br_10 fd1 fd2 g1 hp1 hp2
  have k9 := frI fd2 h2 0 9 (by decide)
  have k8 := f1.1 0 9 (by simp)
  have n2 : ¬ tI t2 0 9 = 0 → RG t2 t2 12 13 14 15 19 70 := fun hk => RG.st (g2 (fun q => hk (by rw [k9, k8, q]))) f1 fd2 h1 (by decide) (by simp [gX]) (by simp [gX]) (fd2.2.1 70 (by simp))
  have ns := RS.st rs f1 fd2 h1 h2 (by decide) (by decide)
  have nl := RW.st rl f1 fd2 h1 h2 (by decide) (by decide)
  have nm := RM.st rm f1 fd2 h1 h2 (by simp [mX]) (by simp [mY])
  have y1 := frI fd2 h2 1 13 (by decide)
  have y2 := frI fd2 h2 12 13 (by decide)
  have l1 := f1.1 1 13 (by simp)
  have l2 := f1.1 12 13 (by simp)
  have d1 : 0 ≤ tI t2 1 13 ∧ tI t2 1 13 ≤ 9999 := by omega
  have d2 : 0 ≤ tI t2 12 13 ∧ tI t2 12 13 ≤ 9999 := by omega
  exact key t2 ⟨ok2, wf2, wg2, d1, d2, sl2, n1, n2, ns, nl, nm, by omega⟩
set_option maxRecDepth 100000 in
theorem lw_11 {xs : List Int32} {i : Int} {N m : Nat} {t : TS} {P : Option Value → ab_W → Prop} (hi : 0 ≤ i ∧ i + 6 ≤ xs.length) (hx : xs.length ≤ 3072) (v : INV m t) (hm : m ≤ 600) (key : ∀ t', INV (m + 1) t' → Rn (bL_law xs (EX FU 100)) N 46 [some (.ref 1000001), some (.ref 0), some (.ref 68), some (.int (jI i))] [] (mk t') P) : Rn (bL_law xs (EX FU 100)) (N + 1) 11 [some (.ref 1000001), some (.ref 0), some (.ref 68), some (.int (jI i))] [] (mk t) P := by
  obtain ⟨ok, wf, wg, c1, c2, sl, g1, g2, rs, rl, rm, dl⟩ := v
  have s12 := ok.f fe_1_10
  have s13 := ok.f fe_12_10
  have i1 := g1.1.1
  have i3 := g1.1.2.2.1
  have x1 := xz_jr xs (i + 1)
  refine w_step rfl ?_
  refine w_aload rfl ?_
  refine w_aload rfl ?_
  refine w_iload rfl ?_
  refine w_push kc_1 ?_
  refine w_add ?_
  refine w_xs (j := 1) (by omega) hx ?_
  refine w_callV1I (oj_0 _).choose_spec rfl (c_X8_deal (d := 92) ok (by omega) (by omega)) ?_
  rintro z1 t1 ⟨ok1, fq1, hp1⟩
  have hl1 := fq1.len
  have fd1 := fq1.toD
  have f1 := fd1
  have h1 : ∀ p ∈ [(1, 10), (1, 14), (2, 100), (3, 100), (4, 100), (5, 100), (6, 100), (9, 100)], p.1 < 68 := by decide
  have wf1 := wf.sm (grA f1 h1 69 (by decide))
  have wg1 := wg.sm (grA f1 h1 70 (by decide))
  have sl1 := sl_sm sl (grA f1 h1 86 (by decide)) (grA f1 h1 87 (by decide))
  have k69 := grA f1 h1 69 (by decide)
  have k1 := k69 1
  have k2 := k69 2
  refine w_popI ?_
  refine w_aload rfl ?_
  refine w_aload rfl ?_
  refine w_iload rfl ?_
  refine w_push kc_1 ?_
  refine w_add ?_
  refine w_xs (j := 1) (by omega) hx ?_
  refine w_callV1I (oj_68 _).choose_spec rfl (c_X9_deal (d := 98) ok1 (by omega) (by omega)) ?_
  rintro z2 t2 ⟨ok2, fq2, hp2⟩
  have hl2 := fq2.len
  have fd2 := fq2.toD
  have h2 : ∀ p ∈ [(69, 100)], 68 ≤ p.1 := by decide
  have wg2 := wg1.sm (fq2.2.1 70 (by simp))
  have sl2 := sl_sm sl1 (fq2.2.1 86 (by simp)) (fq2.2.1 87 (by simp))
  have o3 := fq2.2.1 70 (by simp) 1
  have o4 := fq2.2.1 70 (by simp) 2
  have o5 := fq2.1 68 3 (by simp)
  have l2 : (¬ (1 ≤ (xz xs (i + 1)) ∧ (xz xs (i + 1)) ≤ 12) ∧ z2 = -1000000001 ∧ tA t2 69 1 = tA t1 69 1) ∨ ((1 ≤ (xz xs (i + 1)) ∧ (xz xs (i + 1)) ≤ 12) ∧ z2 = min (xz xs (i + 1)) (12 - tA t1 69 1) ∧ tA t2 69 1 = tA t1 69 1 + min (xz xs (i + 1)) (12 - tA t1 69 1)) := by
    rcases hp2 with h | h
    · exact Or.inl ⟨h.1, h.2.1, by rw [h.2.2]⟩
    · exact Or.inr ⟨h.1, h.2.1, h.2.2.1⟩
  have h69 : ∀ j, (j = 2 ∨ j = 4 ∨ 89 ≤ j) → tA t2 69 j = tA t1 69 j := by
    intro j hj
    rcases hp2 with h | h
    · rw [h.2.2]
    · exact h.2.2.2.2.2.2.2 j (by omega) (by omega) (by omega)
  have wf2 := wf1.same (fun j hj => h69 j (by omega))
  have o2 := h69 2 (by omega)
  refine w_popI ?_
  refine w_goto ?_
  obtain ⟨zz, n1⟩ := br_11 fd1 fd2 g1 hp1 hp2
  have k9 := frI fd2 h2 0 9 (by decide)
  have k8 := f1.1 0 9 (by simp)
  have n2 : ¬ tI t2 0 9 = 0 → RG t2 t2 12 13 14 15 19 70 := fun hk => RG.st (g2 (fun q => hk (by rw [k9, k8, q]))) f1 fd2 h1 (by decide) (by simp [gX]) (by simp [gX]) (fd2.2.1 70 (by simp))
  have ns := RS.st rs f1 fd2 h1 h2 (by decide) (by decide)
  have nl := RW.st rl f1 fd2 h1 h2 (by decide) (by decide)
  have nm := RM.st rm f1 fd2 h1 h2 (by simp [mX]) (by simp [mY])
  have y1 := frI fd2 h2 1 13 (by decide)
  have y2 := frI fd2 h2 12 13 (by decide)
  have l1 := f1.1 1 13 (by simp)
  have l2 := f1.1 12 13 (by simp)
  have d1 : 0 ≤ tI t2 1 13 ∧ tI t2 1 13 ≤ 9999 := by omega
  have d2 : 0 ≤ tI t2 12 13 ∧ tI t2 12 13 ≤ 9999 := by omega
  exact key t2 ⟨ok2, wf2, wg2, d1, d2, sl2, n1, n2, ns, nl, nm, by omega⟩
set_option maxRecDepth 100000 in
theorem lw_12 {xs : List Int32} {i : Int} {N m : Nat} {t : TS} {P : Option Value → ab_W → Prop} (hi : 0 ≤ i ∧ i + 6 ≤ xs.length) (hx : xs.length ≤ 3072) (v : INV m t) (hm : m ≤ 600) (key : ∀ t', INV (m + 1) t' → Rn (bL_law xs (EX FU 100)) N 46 [some (.ref 1000001), some (.ref 0), some (.ref 68), some (.int (jI i))] [] (mk t') P) : Rn (bL_law xs (EX FU 100)) (N + 1) 12 [some (.ref 1000001), some (.ref 0), some (.ref 68), some (.int (jI i))] [] (mk t) P := by
  obtain ⟨ok, wf, wg, c1, c2, sl, g1, g2, rs, rl, rm, dl⟩ := v
  have s12 := ok.f fe_1_10
  have s13 := ok.f fe_12_10
  have i1 := g1.1.1
  have i3 := g1.1.2.2.1
  have x1 := xz_jr xs (i + 1)
  refine w_step rfl ?_
  refine w_aload rfl ?_
  refine w_aload rfl ?_
  refine w_iload rfl ?_
  refine w_push kc_1 ?_
  refine w_add ?_
  refine w_xs (j := 1) (by omega) hx ?_
  refine w_callV1I (oj_0 _).choose_spec rfl (c_X8_seed (d := 99) ok (by omega) (by omega)) ?_
  rintro z1 t1 ⟨ok1, fq1, hp1⟩
  have hl1 := fq1.len
  have fd1 := fq1.toD
  have f1 := fd1
  have h1 : ∀ p ∈ [(1, 14)], p.1 < 68 := by decide
  have wf1 := wf.sm (grA f1 h1 69 (by decide))
  have wg1 := wg.sm (grA f1 h1 70 (by decide))
  have sl1 := sl_sm sl (grA f1 h1 86 (by decide)) (grA f1 h1 87 (by decide))
  have k69 := grA f1 h1 69 (by decide)
  have k1 := k69 1
  have k2 := k69 2
  refine w_popI ?_
  refine w_aload rfl ?_
  refine w_aload rfl ?_
  refine w_iload rfl ?_
  refine w_push kc_1 ?_
  refine w_add ?_
  refine w_xs (j := 1) (by omega) hx ?_
  refine w_callV1I (oj_68 _).choose_spec rfl (c_X9_seed (d := 98) ok1 (by omega) (by omega)) ?_
  rintro z2 t2 ⟨ok2, fq2, hp2⟩
  have hl2 := fq2.len
  have fd2 := fq2.toD
  have h2 : ∀ p ∈ [(69, 100)], 68 ≤ p.1 := by decide
  have wg2 := wg1.sm (fq2.2.1 70 (by simp))
  have sl2 := sl_sm sl1 (fq2.2.1 86 (by simp)) (fq2.2.1 87 (by simp))
  have o3 := fq2.2.1 70 (by simp) 1
  have o4 := fq2.2.1 70 (by simp) 2
  have o5 := fq2.1 68 3 (by simp)
  have h69 : ∀ j, ¬ j = 0 → tA t2 69 j = tA t1 69 j := by
    intro j hj
    rw [hp2.2, tA_uA, if_neg (by omega)]
  have wf2 := wf1.same (fun j hj => h69 j (by omega))
  have o1 := h69 1 (by omega)
  have o2 := h69 2 (by omega)
  refine w_popI ?_
  refine w_goto ?_
  obtain ⟨zz, n1⟩ := br_12 fd1 fd2 g1 hp1 hp2
  have k9 := frI fd2 h2 0 9 (by decide)
  have k8 := f1.1 0 9 (by simp)
  have n2 : ¬ tI t2 0 9 = 0 → RG t2 t2 12 13 14 15 19 70 := fun hk => RG.st (g2 (fun q => hk (by rw [k9, k8, q]))) f1 fd2 h1 (by decide) (by simp [gX]) (by simp [gX]) (fd2.2.1 70 (by simp))
  have ns := RS.st rs f1 fd2 h1 h2 (by decide) (by decide)
  have nl := RW.st rl f1 fd2 h1 h2 (by decide) (by decide)
  have nm := RM.st rm f1 fd2 h1 h2 (by simp [mX]) (by simp [mY])
  have y1 := frI fd2 h2 1 13 (by decide)
  have y2 := frI fd2 h2 12 13 (by decide)
  have l1 := f1.1 1 13 (by simp)
  have l2 := f1.1 12 13 (by simp)
  have d1 : 0 ≤ tI t2 1 13 ∧ tI t2 1 13 ≤ 9999 := by omega
  have d2 : 0 ≤ tI t2 12 13 ∧ tI t2 12 13 ≤ 9999 := by omega
  exact key t2 ⟨ok2, wf2, wg2, d1, d2, sl2, n1, n2, ns, nl, nm, by omega⟩
set_option maxRecDepth 100000 in
theorem lw_13 {xs : List Int32} {i : Int} {N m : Nat} {t : TS} {P : Option Value → ab_W → Prop} (hi : 0 ≤ i ∧ i + 6 ≤ xs.length) (hx : xs.length ≤ 3072) (v : INV m t) (hm : m ≤ 600) (key : ∀ t', INV (m + 1) t' → Rn (bL_law xs (EX FU 100)) N 46 [some (.ref 1000001), some (.ref 0), some (.ref 68), some (.int (jI i))] [] (mk t') P) : Rn (bL_law xs (EX FU 100)) (N + 1) 13 [some (.ref 1000001), some (.ref 0), some (.ref 68), some (.int (jI i))] [] (mk t) P := by
  obtain ⟨ok, wf, wg, c1, c2, sl, g1, g2, rs, rl, rm, dl⟩ := v
  have s12 := ok.f fe_1_10
  have s13 := ok.f fe_12_10
  have i1 := g1.1.1
  have i3 := g1.1.2.2.1
  have x1 := xz_jr xs (i + 1)
  refine w_step rfl ?_
  refine w_aload rfl ?_
  refine w_aload rfl ?_
  refine w_iload rfl ?_
  refine w_push kc_1 ?_
  refine w_add ?_
  refine w_xs (j := 1) (by omega) hx ?_
  refine w_callV1I (oj_0 _).choose_spec rfl (c_X8_days (d := 94) ok (by omega) (by omega) (by omega) (by omega)) ?_
  rintro z1 t1 ⟨ok1, fq1, hp1⟩
  have hl1 := fq1.len
  have fd1 := fq1.toD
  have f1 := fd1
  have h1 : ∀ p ∈ [(1, 13), (1, 14), (5, 100), (6, 100), (7, 100)], p.1 < 68 := by decide
  have wf1 := wf.sm (grA f1 h1 69 (by decide))
  have wg1 := wg.sm (grA f1 h1 70 (by decide))
  have sl1 := sl_sm sl (grA f1 h1 86 (by decide)) (grA f1 h1 87 (by decide))
  have k69 := grA f1 h1 69 (by decide)
  have k1 := k69 1
  have k2 := k69 2
  refine w_popI ?_
  refine w_aload rfl ?_
  refine w_aload rfl ?_
  refine w_iload rfl ?_
  refine w_push kc_1 ?_
  refine w_add ?_
  refine w_xs (j := 1) (by omega) hx ?_
  refine w_callV1I (oj_68 _).choose_spec rfl (c_X9_days (d := 92) ok1 wf1 (by omega) (by omega) (by omega) (by omega)) ?_
  rintro z2 t2 ⟨ok2, fq2, hp2⟩
  have hl2 := fq2.len
  have fd2 := fq2.toD
  have h2 : ∀ p ∈ [(69, 100), (81, 100), (82, 100)], 68 ≤ p.1 := by decide
  have wg2 := wg1.sm (fq2.2.1 70 (by simp))
  have sl2 := sl_sm sl1 (fq2.2.1 86 (by simp)) (fq2.2.1 87 (by simp))
  have o3 := fq2.2.1 70 (by simp) 1
  have o4 := fq2.2.1 70 (by simp) 2
  have o5 := fq2.1 68 3 (by simp)
  have wf2 := wf1.dq hp2.2.2.1
  have o1 := hp2.2.2.1 1 (by decide) (by decide) (by decide)
  have l2 : tA t2 69 2 = tA t1 69 2 ∨ (1 ≤ (xz xs (i + 1)) ∧ tA t2 69 2 = tA t1 69 2 + min (xz xs (i + 1)) (9999 - tA t1 69 2)) := by
    rcases hp2.2.2.2 with h | h
    · exact Or.inl (by rw [h.2.2])
    · exact Or.inr ⟨h.1.1, h.2.2⟩
  refine w_popI ?_
  refine w_goto ?_
  obtain ⟨zz, n1⟩ := br_13 fd1 fd2 g1 hp1 hp2
  have k9 := frI fd2 h2 0 9 (by decide)
  have k8 := f1.1 0 9 (by simp)
  have n2 : ¬ tI t2 0 9 = 0 → RG t2 t2 12 13 14 15 19 70 := fun hk => RG.st (g2 (fun q => hk (by rw [k9, k8, q]))) f1 fd2 h1 (by decide) (by simp [gX]) (by simp [gX]) (fd2.2.1 70 (by simp))
  have ns := RS.st rs f1 fd2 h1 h2 (by decide) (by decide)
  have nl := RW.st rl f1 fd2 h1 h2 (by decide) (by decide)
  have nm := RM.st rm f1 fd2 h1 h2 (by simp [mX]) (by simp [mY])
  have y1 := frI fd2 h2 1 13 (by decide)
  have y2 := frI fd2 h2 12 13 (by decide)
  have l1 : tI t1 1 13 = tI t 1 13 ∨ (1 ≤ xz xs (i + 1) ∧ tI t1 1 13 = tI t 1 13 + min (xz xs (i + 1)) (9999 - tI t 1 13)) := by
    rcases hp1.2.2 with h | h
    · exact Or.inl (by rw [h.2.2])
    · exact Or.inr ⟨h.1.1, h.2.2⟩
  have l2 := f1.1 12 13 (by simp)
  have d1 : 0 ≤ tI t2 1 13 ∧ tI t2 1 13 ≤ 9999 := by omega
  have d2 : 0 ≤ tI t2 12 13 ∧ tI t2 12 13 ≤ 9999 := by omega
  exact key t2 ⟨ok2, wf2, wg2, d1, d2, sl2, n1, n2, ns, nl, nm, by omega⟩
set_option maxRecDepth 100000 in
theorem lw_14 {xs : List Int32} {i : Int} {N m : Nat} {t : TS} {P : Option Value → ab_W → Prop} (hi : 0 ≤ i ∧ i + 6 ≤ xs.length) (hx : xs.length ≤ 3072) (v : INV m t) (hm : m ≤ 600) (key : ∀ t', INV (m + 1) t' → Rn (bL_law xs (EX FU 100)) N 46 [some (.ref 1000001), some (.ref 0), some (.ref 68), some (.int (jI i))] [] (mk t') P) : Rn (bL_law xs (EX FU 100)) (N + 1) 14 [some (.ref 1000001), some (.ref 0), some (.ref 68), some (.int (jI i))] [] (mk t) P := by
  obtain ⟨ok, wf, wg, c1, c2, sl, g1, g2, rs, rl, rm, dl⟩ := v
  have s12 := ok.f fe_1_10
  have s13 := ok.f fe_12_10
  have i1 := g1.1.1
  have i3 := g1.1.2.2.1
  have x1 := xz_jr xs (i + 1)
  refine w_step rfl ?_
  refine w_aload rfl ?_
  refine w_aload rfl ?_
  refine w_iload rfl ?_
  refine w_push kc_1 ?_
  refine w_add ?_
  refine w_xs (j := 1) (by omega) hx ?_
  refine w_callV1I (oj_0 _).choose_spec rfl (c_X8_king (d := 96) ok (by omega) (by omega)) ?_
  rintro z1 t1 ⟨tt1, hp1⟩
  have ok1 : OK t1 := tt1 ▸ ok
  have fd1 : FrD [] t t1 := tt1 ▸ FrD.rf t
  have hl1 : (tD t1).length = (tD t).length := by rw [tt1]
  have f1 := fd1
  have h1 : ∀ p ∈ ([] : List (Nat × Nat)), p.1 < 68 := by simp
  have wf1 := wf.sm (grA f1 h1 69 (by decide))
  have wg1 := wg.sm (grA f1 h1 70 (by decide))
  have sl1 := sl_sm sl (grA f1 h1 86 (by decide)) (grA f1 h1 87 (by decide))
  have k69 := grA f1 h1 69 (by decide)
  have k1 := k69 1
  have k2 := k69 2
  refine w_popI ?_
  refine w_aload rfl ?_
  refine w_aload rfl ?_
  refine w_iload rfl ?_
  refine w_push kc_1 ?_
  refine w_add ?_
  refine w_xs (j := 1) (by omega) hx ?_
  refine w_callV1I (oj_68 _).choose_spec rfl (c_X9_king (d := 94) ok1 wf1 (by omega) (by omega)) ?_
  rintro z2 t2 ⟨ok2, fq2, hp2⟩
  have hl2 := fq2.len
  have fd2 := fq2.toD
  have h2 : ∀ p ∈ [(81, 100), (82, 100)], 68 ≤ p.1 := by decide
  have wf2 := wf1.sm (fd2.2.1 69 (by simp))
  have wg2 := wg1.sm (fd2.2.1 70 (by simp))
  have sl2 := sl_sm sl1 (fd2.2.1 86 (by simp)) (fd2.2.1 87 (by simp))
  refine w_popI ?_
  refine w_goto ?_
  have n1 := RG.st g1 f1 fd2 h1 (by decide) (by simp [gX]) (by simp [gX]) (fd2.2.1 69 (by simp))
  have k9 := frI fd2 h2 0 9 (by decide)
  have k8 := f1.1 0 9 (by simp)
  have n2 : ¬ tI t2 0 9 = 0 → RG t2 t2 12 13 14 15 19 70 := fun hk => RG.st (g2 (fun q => hk (by rw [k9, k8, q]))) f1 fd2 h1 (by decide) (by simp [gX]) (by simp [gX]) (fd2.2.1 70 (by simp))
  have ns := RS.st rs f1 fd2 h1 h2 (by simp) (by decide)
  have nl := RW.st rl f1 fd2 h1 h2 (by simp) (by decide)
  have nm := RM.st rm f1 fd2 h1 h2 (by simp [mX]) (by simp [mY])
  have y1 := frI fd2 h2 1 13 (by decide)
  have y2 := frI fd2 h2 12 13 (by decide)
  have l1 := f1.1 1 13 (by simp)
  have l2 := f1.1 12 13 (by simp)
  have d1 : 0 ≤ tI t2 1 13 ∧ tI t2 1 13 ≤ 9999 := by omega
  have d2 : 0 ≤ tI t2 12 13 ∧ tI t2 12 13 ≤ 9999 := by omega
  exact key t2 ⟨ok2, wf2, wg2, d1, d2, sl2, n1, n2, ns, nl, nm, by omega⟩
set_option maxRecDepth 100000 in
theorem lw_15 {xs : List Int32} {i : Int} {N m : Nat} {t : TS} {P : Option Value → ab_W → Prop} (hi : 0 ≤ i ∧ i + 6 ≤ xs.length) (hx : xs.length ≤ 3072) (v : INV m t) (hm : m ≤ 600) (key : ∀ t', INV (m + 1) t' → Rn (bL_law xs (EX FU 100)) N 46 [some (.ref 1000001), some (.ref 0), some (.ref 68), some (.int (jI i))] [] (mk t') P) : Rn (bL_law xs (EX FU 100)) (N + 1) 15 [some (.ref 1000001), some (.ref 0), some (.ref 68), some (.int (jI i))] [] (mk t) P := by
  obtain ⟨ok, wf, wg, c1, c2, sl, g1, g2, rs, rl, rm, dl⟩ := v
  have s12 := ok.f fe_1_10
  have s13 := ok.f fe_12_10
  have i1 := g1.1.1
  have i3 := g1.1.2.2.1
  have x1 := xz_jr xs (i + 1)
  refine w_step rfl ?_
  refine w_aload rfl ?_
  refine w_aload rfl ?_
  refine w_iload rfl ?_
  refine w_push kc_1 ?_
  refine w_add ?_
  refine w_xs (j := 1) (by omega) hx ?_
  refine w_callV1I (oj_0 _).choose_spec rfl (c_X8_at (d := 97) ok (by omega) (by omega)) ?_
  rintro z1 t1 ⟨tt1, hp1⟩
  have ok1 : OK t1 := tt1 ▸ ok
  have fd1 : FrD [] t t1 := tt1 ▸ FrD.rf t
  have hl1 : (tD t1).length = (tD t).length := by rw [tt1]
  have f1 := fd1
  have h1 : ∀ p ∈ ([] : List (Nat × Nat)), p.1 < 68 := by simp
  have wf1 := wf.sm (grA f1 h1 69 (by decide))
  have wg1 := wg.sm (grA f1 h1 70 (by decide))
  have sl1 := sl_sm sl (grA f1 h1 86 (by decide)) (grA f1 h1 87 (by decide))
  have k69 := grA f1 h1 69 (by decide)
  have k1 := k69 1
  have k2 := k69 2
  refine w_popI ?_
  refine w_aload rfl ?_
  refine w_aload rfl ?_
  refine w_iload rfl ?_
  refine w_push kc_1 ?_
  refine w_add ?_
  refine w_xs (j := 1) (by omega) hx ?_
  refine w_callV1I (oj_68 _).choose_spec rfl (c_X9_at (d := 97) ok1 (by omega) (by omega)) ?_
  rintro z2 t2 ⟨tt2, hp2⟩
  have ok2 : OK t2 := tt2 ▸ ok1
  have fd2 : FrD [] t1 t2 := tt2 ▸ FrD.rf t1
  have hl2 : (tD t2).length = (tD t1).length := by rw [tt2]
  have h2 : ∀ p ∈ ([] : List (Nat × Nat)), 68 ≤ p.1 := by simp
  have wf2 := wf1.sm (fd2.2.1 69 (by simp))
  have wg2 := wg1.sm (fd2.2.1 70 (by simp))
  have sl2 := sl_sm sl1 (fd2.2.1 86 (by simp)) (fd2.2.1 87 (by simp))
  refine w_popI ?_
  refine w_goto ?_
  have n1 := RG.st g1 f1 fd2 h1 (by decide) (by simp [gX]) (by simp [gX]) (fd2.2.1 69 (by simp))
  have k9 := frI fd2 h2 0 9 (by decide)
  have k8 := f1.1 0 9 (by simp)
  have n2 : ¬ tI t2 0 9 = 0 → RG t2 t2 12 13 14 15 19 70 := fun hk => RG.st (g2 (fun q => hk (by rw [k9, k8, q]))) f1 fd2 h1 (by decide) (by simp [gX]) (by simp [gX]) (fd2.2.1 70 (by simp))
  have ns := RS.st rs f1 fd2 h1 h2 (by simp) (by simp)
  have nl := RW.st rl f1 fd2 h1 h2 (by simp) (by simp)
  have nm := RM.st rm f1 fd2 h1 h2 (by simp [mX]) (by simp [mY])
  have y1 := frI fd2 h2 1 13 (by decide)
  have y2 := frI fd2 h2 12 13 (by decide)
  have l1 := f1.1 1 13 (by simp)
  have l2 := f1.1 12 13 (by simp)
  have d1 : 0 ≤ tI t2 1 13 ∧ tI t2 1 13 ≤ 9999 := by omega
  have d2 : 0 ≤ tI t2 12 13 ∧ tI t2 12 13 ≤ 9999 := by omega
  exact key t2 ⟨ok2, wf2, wg2, d1, d2, sl2, n1, n2, ns, nl, nm, by omega⟩
set_option maxRecDepth 100000 in
theorem lw_16 {xs : List Int32} {i : Int} {N m : Nat} {t : TS} {P : Option Value → ab_W → Prop} (hi : 0 ≤ i ∧ i + 6 ≤ xs.length) (hx : xs.length ≤ 3072) (v : INV m t) (hm : m ≤ 600) (key : ∀ t', INV (m + 1) t' → Rn (bL_law xs (EX FU 100)) N 46 [some (.ref 1000001), some (.ref 0), some (.ref 68), some (.int (jI i))] [] (mk t') P) : Rn (bL_law xs (EX FU 100)) (N + 1) 16 [some (.ref 1000001), some (.ref 0), some (.ref 68), some (.int (jI i))] [] (mk t) P := by
  obtain ⟨ok, wf, wg, c1, c2, sl, g1, g2, rs, rl, rm, dl⟩ := v
  have s12 := ok.f fe_1_10
  have s13 := ok.f fe_12_10
  have i1 := g1.1.1
  have i3 := g1.1.2.2.1
  have x1 := xz_jr xs (i + 1)
  have x2 := xz_jr xs (i + 2)
  refine w_step rfl ?_
  refine w_aload rfl ?_
  refine w_aload rfl ?_
  refine w_iload rfl ?_
  refine w_push kc_1 ?_
  refine w_add ?_
  refine w_xs (j := 1) (by omega) hx ?_
  refine w_aload rfl ?_
  refine w_iload rfl ?_
  refine w_push kc_2 ?_
  refine w_add ?_
  refine w_xs (j := 1) (by omega) hx ?_
  refine w_callV2I (oj_0 _).choose_spec rfl (c_X8_best (d := 94) ok (by omega) (by omega) (by omega) (by omega)) ?_
  rintro z1 t1 ⟨ok1, fq1, hp1⟩
  have hl1 := fq1.len
  have fd1 := fq1.toD
  have f1 := fd1
  have h1 : ∀ p ∈ [(35, 100), (36, 100)], p.1 < 68 := by decide
  have wf1 := wf.sm (grA f1 h1 69 (by decide))
  have wg1 := wg.sm (grA f1 h1 70 (by decide))
  have sl1 := sl_sm sl (grA f1 h1 86 (by decide)) (grA f1 h1 87 (by decide))
  have k69 := grA f1 h1 69 (by decide)
  have k1 := k69 1
  have k2 := k69 2
  refine w_popI ?_
  refine w_aload rfl ?_
  refine w_aload rfl ?_
  refine w_iload rfl ?_
  refine w_push kc_1 ?_
  refine w_add ?_
  refine w_xs (j := 1) (by omega) hx ?_
  refine w_aload rfl ?_
  refine w_iload rfl ?_
  refine w_push kc_2 ?_
  refine w_add ?_
  refine w_xs (j := 1) (by omega) hx ?_
  refine w_callV2I (oj_68 _).choose_spec rfl (c_X9_best (d := 94) ok1 wf1 (by omega) (by omega) (by omega) (by omega)) ?_
  rintro z2 t2 ⟨ok2, fq2, hp2⟩
  have hl2 := fq2.len
  have fd2 := fq2.toD
  have h2 : ∀ p ∈ [(81, 100), (82, 100), (72, 100), (73, 100)], 68 ≤ p.1 := by decide
  have wf2 := wf1.sm (fd2.2.1 69 (by simp))
  have wg2 := wg1.sm (fd2.2.1 70 (by simp))
  have sl2 := sl_sm sl1 (fd2.2.1 86 (by simp)) (fd2.2.1 87 (by simp))
  refine w_popI ?_
  refine w_goto ?_
  have n1 := RG.st g1 f1 fd2 h1 (by decide) (by simp [gX]) (by simp [gX]) (fd2.2.1 69 (by simp))
  have k9 := frI fd2 h2 0 9 (by decide)
  have k8 := f1.1 0 9 (by simp)
  have n2 : ¬ tI t2 0 9 = 0 → RG t2 t2 12 13 14 15 19 70 := fun hk => RG.st (g2 (fun q => hk (by rw [k9, k8, q]))) f1 fd2 h1 (by decide) (by simp [gX]) (by simp [gX]) (fd2.2.1 70 (by simp))
  have ns := RS.st rs f1 fd2 h1 h2 (by decide) (by decide)
  have nl := RW.st rl f1 fd2 h1 h2 (by decide) (by decide)
  have nm := RM.st rm f1 fd2 h1 h2 (by simp [mX]) (by simp [mY])
  have y1 := frI fd2 h2 1 13 (by decide)
  have y2 := frI fd2 h2 12 13 (by decide)
  have l1 := f1.1 1 13 (by simp)
  have l2 := f1.1 12 13 (by simp)
  have d1 : 0 ≤ tI t2 1 13 ∧ tI t2 1 13 ≤ 9999 := by omega
  have d2 : 0 ≤ tI t2 12 13 ∧ tI t2 12 13 ≤ 9999 := by omega
  exact key t2 ⟨ok2, wf2, wg2, d1, d2, sl2, n1, n2, ns, nl, nm, by omega⟩
set_option maxRecDepth 100000 in
theorem lw_17 {xs : List Int32} {i : Int} {N m : Nat} {t : TS} {P : Option Value → ab_W → Prop} (hi : 0 ≤ i ∧ i + 6 ≤ xs.length) (hx : xs.length ≤ 3072) (v : INV m t) (hm : m ≤ 600) (key : ∀ t', INV (m + 1) t' → Rn (bL_law xs (EX FU 100)) N 46 [some (.ref 1000001), some (.ref 0), some (.ref 68), some (.int (jI i))] [] (mk t') P) : Rn (bL_law xs (EX FU 100)) (N + 1) 17 [some (.ref 1000001), some (.ref 0), some (.ref 68), some (.int (jI i))] [] (mk t) P := by
  obtain ⟨ok, wf, wg, c1, c2, sl, g1, g2, rs, rl, rm, dl⟩ := v
  have s12 := ok.f fe_1_10
  have s13 := ok.f fe_12_10
  have i1 := g1.1.1
  have i3 := g1.1.2.2.1
  have x1 := xz_jr xs (i + 1)
  have x2 := xz_jr xs (i + 2)
  refine w_step rfl ?_
  refine w_aload rfl ?_
  refine w_aload rfl ?_
  refine w_iload rfl ?_
  refine w_push kc_1 ?_
  refine w_add ?_
  refine w_xs (j := 1) (by omega) hx ?_
  refine w_aload rfl ?_
  refine w_iload rfl ?_
  refine w_push kc_2 ?_
  refine w_add ?_
  refine w_xs (j := 1) (by omega) hx ?_
  refine w_callV2I (oj_0 _).choose_spec rfl (c_X8_bestFor (d := 96) ok (by omega) (by omega) (by omega) (by omega)) ?_
  rintro z1 t1 ⟨tt1, hp1⟩
  have ok1 : OK t1 := tt1 ▸ ok
  have fd1 : FrD [] t t1 := tt1 ▸ FrD.rf t
  have hl1 : (tD t1).length = (tD t).length := by rw [tt1]
  have f1 := fd1
  have h1 : ∀ p ∈ ([] : List (Nat × Nat)), p.1 < 68 := by simp
  have wf1 := wf.sm (grA f1 h1 69 (by decide))
  have wg1 := wg.sm (grA f1 h1 70 (by decide))
  have sl1 := sl_sm sl (grA f1 h1 86 (by decide)) (grA f1 h1 87 (by decide))
  have k69 := grA f1 h1 69 (by decide)
  have k1 := k69 1
  have k2 := k69 2
  refine w_popI ?_
  refine w_aload rfl ?_
  refine w_aload rfl ?_
  refine w_iload rfl ?_
  refine w_push kc_1 ?_
  refine w_add ?_
  refine w_xs (j := 1) (by omega) hx ?_
  refine w_aload rfl ?_
  refine w_iload rfl ?_
  refine w_push kc_2 ?_
  refine w_add ?_
  refine w_xs (j := 1) (by omega) hx ?_
  refine w_callV2I (oj_68 _).choose_spec rfl (c_X9_bestFor (d := 94) ok1 wf1 (by omega) (by omega) (by omega) (by omega)) ?_
  rintro z2 t2 ⟨ok2, fq2, hp2⟩
  have hl2 := fq2.len
  have fd2 := fq2.toD
  have h2 : ∀ p ∈ [(81, 100), (82, 100)], 68 ≤ p.1 := by decide
  have wf2 := wf1.sm (fd2.2.1 69 (by simp))
  have wg2 := wg1.sm (fd2.2.1 70 (by simp))
  have sl2 := sl_sm sl1 (fd2.2.1 86 (by simp)) (fd2.2.1 87 (by simp))
  refine w_popI ?_
  refine w_goto ?_
  have n1 := RG.st g1 f1 fd2 h1 (by decide) (by simp [gX]) (by simp [gX]) (fd2.2.1 69 (by simp))
  have k9 := frI fd2 h2 0 9 (by decide)
  have k8 := f1.1 0 9 (by simp)
  have n2 : ¬ tI t2 0 9 = 0 → RG t2 t2 12 13 14 15 19 70 := fun hk => RG.st (g2 (fun q => hk (by rw [k9, k8, q]))) f1 fd2 h1 (by decide) (by simp [gX]) (by simp [gX]) (fd2.2.1 70 (by simp))
  have ns := RS.st rs f1 fd2 h1 h2 (by simp) (by decide)
  have nl := RW.st rl f1 fd2 h1 h2 (by simp) (by decide)
  have nm := RM.st rm f1 fd2 h1 h2 (by simp [mX]) (by simp [mY])
  have y1 := frI fd2 h2 1 13 (by decide)
  have y2 := frI fd2 h2 12 13 (by decide)
  have l1 := f1.1 1 13 (by simp)
  have l2 := f1.1 12 13 (by simp)
  have d1 : 0 ≤ tI t2 1 13 ∧ tI t2 1 13 ≤ 9999 := by omega
  have d2 : 0 ≤ tI t2 12 13 ∧ tI t2 12 13 ≤ 9999 := by omega
  exact key t2 ⟨ok2, wf2, wg2, d1, d2, sl2, n1, n2, ns, nl, nm, by omega⟩
set_option maxRecDepth 100000 in
theorem lw_18 {xs : List Int32} {i : Int} {N m : Nat} {t : TS} {P : Option Value → ab_W → Prop} (hi : 0 ≤ i ∧ i + 6 ≤ xs.length) (hx : xs.length ≤ 3072) (v : INV m t) (hm : m ≤ 600) (key : ∀ t', INV (m + 1) t' → Rn (bL_law xs (EX FU 100)) N 46 [some (.ref 1000001), some (.ref 0), some (.ref 68), some (.int (jI i))] [] (mk t') P) : Rn (bL_law xs (EX FU 100)) (N + 1) 18 [some (.ref 1000001), some (.ref 0), some (.ref 68), some (.int (jI i))] [] (mk t) P := by
  obtain ⟨ok, wf, wg, c1, c2, sl, g1, g2, rs, rl, rm, dl⟩ := v
  have s12 := ok.f fe_1_10
  have s13 := ok.f fe_12_10
  have i1 := g1.1.1
  have i3 := g1.1.2.2.1
  refine w_step rfl ?_
  refine w_aload rfl ?_
  refine w_callV0I (oj_0 _).choose_spec rfl (c_X8_swap (d := 96) ok ) ?_
  rintro z1 t1 ⟨tt1, hp1⟩
  have ok1 : OK t1 := tt1 ▸ ok
  have fd1 : FrD [] t t1 := tt1 ▸ FrD.rf t
  have hl1 : (tD t1).length = (tD t).length := by rw [tt1]
  have f1 := fd1
  have h1 : ∀ p ∈ ([] : List (Nat × Nat)), p.1 < 68 := by simp
  have wf1 := wf.sm (grA f1 h1 69 (by decide))
  have wg1 := wg.sm (grA f1 h1 70 (by decide))
  have sl1 := sl_sm sl (grA f1 h1 86 (by decide)) (grA f1 h1 87 (by decide))
  have k69 := grA f1 h1 69 (by decide)
  have k1 := k69 1
  have k2 := k69 2
  refine w_popI ?_
  refine w_aload rfl ?_
  refine w_callV0I (oj_68 _).choose_spec rfl (c_X9_swap (d := 94) ok1 wf1) ?_
  rintro z2 t2 ⟨ok2, fq2, hp2⟩
  have hl2 := fq2.len
  have fd2 := fq2.toD
  have h2 : ∀ p ∈ [(69, 100), (81, 100), (82, 100)], 68 ≤ p.1 := by decide
  have wg2 := wg1.sm (fq2.2.1 70 (by simp))
  have sl2 := sl_sm sl1 (fq2.2.1 86 (by simp)) (fq2.2.1 87 (by simp))
  have o3 := fq2.2.1 70 (by simp) 1
  have o4 := fq2.2.1 70 (by simp) 2
  have o5 := fq2.1 68 3 (by simp)
  have wf2 := wf1.dq hp2.2.2.1
  have o1 := hp2.2.2.1 1 (by decide) (by decide) (by decide)
  have o2 := hp2.2.2.2.2
  refine w_popI ?_
  refine w_goto ?_
  have n1 := RG.sq g1 f1 fd2 h1 (by decide) (by simp [gX]) (by simp [gX]) (by omega) (fun i hi => by rcases (show i = 0 ∨ i = 2 ∨ (¬ i = 0 ∧ ¬ i = 2) by omega) with q | q | q <;> first | (rw [q]; exact hp2.2.2.2.1) | (rw [q]; exact hp2.2.2.2.2) | exact hp2.2.2.1 i q.1 q.2 (by omega))
  have k9 := frI fd2 h2 0 9 (by decide)
  have k8 := f1.1 0 9 (by simp)
  have n2 : ¬ tI t2 0 9 = 0 → RG t2 t2 12 13 14 15 19 70 := fun hk => RG.st (g2 (fun q => hk (by rw [k9, k8, q]))) f1 fd2 h1 (by decide) (by simp [gX]) (by simp [gX]) (fd2.2.1 70 (by simp))
  have ns := RS.st rs f1 fd2 h1 h2 (by simp) (by decide)
  have nl := RW.st rl f1 fd2 h1 h2 (by simp) (by decide)
  have nm := RM.st rm f1 fd2 h1 h2 (by simp [mX]) (by simp [mY])
  have y1 := frI fd2 h2 1 13 (by decide)
  have y2 := frI fd2 h2 12 13 (by decide)
  have l1 := f1.1 1 13 (by simp)
  have l2 := f1.1 12 13 (by simp)
  have d1 : 0 ≤ tI t2 1 13 ∧ tI t2 1 13 ≤ 9999 := by omega
  have d2 : 0 ≤ tI t2 12 13 ∧ tI t2 12 13 ≤ 9999 := by omega
  exact key t2 ⟨ok2, wf2, wg2, d1, d2, sl2, n1, n2, ns, nl, nm, by omega⟩
set_option maxRecDepth 100000 in
theorem lw_19 {xs : List Int32} {i : Int} {N m : Nat} {t : TS} {P : Option Value → ab_W → Prop} (hi : 0 ≤ i ∧ i + 6 ≤ xs.length) (hx : xs.length ≤ 3072) (v : INV m t) (hm : m ≤ 600) (key : ∀ t', INV (m + 1) t' → Rn (bL_law xs (EX FU 100)) N 46 [some (.ref 1000001), some (.ref 0), some (.ref 68), some (.int (jI i))] [] (mk t') P) : Rn (bL_law xs (EX FU 100)) (N + 1) 19 [some (.ref 1000001), some (.ref 0), some (.ref 68), some (.int (jI i))] [] (mk t) P := by
  obtain ⟨ok, wf, wg, c1, c2, sl, g1, g2, rs, rl, rm, dl⟩ := v
  have s12 := ok.f fe_1_10
  have s13 := ok.f fe_12_10
  have i1 := g1.1.1
  have i3 := g1.1.2.2.1
  have x1 := xz_jr xs (i + 1)
  refine w_step rfl ?_
  refine w_aload rfl ?_
  refine w_aload rfl ?_
  refine w_iload rfl ?_
  refine w_push kc_1 ?_
  refine w_add ?_
  refine w_xs (j := 1) (by omega) hx ?_
  refine w_callV1I (oj_0 _).choose_spec rfl (c_X8_knocked (d := 96) ok (by omega) (by omega)) ?_
  rintro z1 t1 ⟨tt1, hp1⟩
  have ok1 : OK t1 := tt1 ▸ ok
  have fd1 : FrD [] t t1 := tt1 ▸ FrD.rf t
  have hl1 : (tD t1).length = (tD t).length := by rw [tt1]
  have f1 := fd1
  have h1 : ∀ p ∈ ([] : List (Nat × Nat)), p.1 < 68 := by simp
  have wf1 := wf.sm (grA f1 h1 69 (by decide))
  have wg1 := wg.sm (grA f1 h1 70 (by decide))
  have sl1 := sl_sm sl (grA f1 h1 86 (by decide)) (grA f1 h1 87 (by decide))
  have k69 := grA f1 h1 69 (by decide)
  have k1 := k69 1
  have k2 := k69 2
  refine w_popI ?_
  refine w_aload rfl ?_
  refine w_aload rfl ?_
  refine w_iload rfl ?_
  refine w_push kc_1 ?_
  refine w_add ?_
  refine w_xs (j := 1) (by omega) hx ?_
  refine w_callV1I (oj_68 _).choose_spec rfl (c_X9_knocked (d := 96) ok1 (by omega) (by omega)) ?_
  rintro z2 t2 ⟨tt2, hp2⟩
  have ok2 : OK t2 := tt2 ▸ ok1
  have fd2 : FrD [] t1 t2 := tt2 ▸ FrD.rf t1
  have hl2 : (tD t2).length = (tD t1).length := by rw [tt2]
  have h2 : ∀ p ∈ ([] : List (Nat × Nat)), 68 ≤ p.1 := by simp
  have wf2 := wf1.sm (fd2.2.1 69 (by simp))
  have wg2 := wg1.sm (fd2.2.1 70 (by simp))
  have sl2 := sl_sm sl1 (fd2.2.1 86 (by simp)) (fd2.2.1 87 (by simp))
  refine w_popI ?_
  refine w_goto ?_
  have n1 := RG.st g1 f1 fd2 h1 (by decide) (by simp [gX]) (by simp [gX]) (fd2.2.1 69 (by simp))
  have k9 := frI fd2 h2 0 9 (by decide)
  have k8 := f1.1 0 9 (by simp)
  have n2 : ¬ tI t2 0 9 = 0 → RG t2 t2 12 13 14 15 19 70 := fun hk => RG.st (g2 (fun q => hk (by rw [k9, k8, q]))) f1 fd2 h1 (by decide) (by simp [gX]) (by simp [gX]) (fd2.2.1 70 (by simp))
  have ns := RS.st rs f1 fd2 h1 h2 (by simp) (by simp)
  have nl := RW.st rl f1 fd2 h1 h2 (by simp) (by simp)
  have nm := RM.st rm f1 fd2 h1 h2 (by simp [mX]) (by simp [mY])
  have y1 := frI fd2 h2 1 13 (by decide)
  have y2 := frI fd2 h2 12 13 (by decide)
  have l1 := f1.1 1 13 (by simp)
  have l2 := f1.1 12 13 (by simp)
  have d1 : 0 ≤ tI t2 1 13 ∧ tI t2 1 13 ≤ 9999 := by omega
  have d2 : 0 ≤ tI t2 12 13 ∧ tI t2 12 13 ≤ 9999 := by omega
  exact key t2 ⟨ok2, wf2, wg2, d1, d2, sl2, n1, n2, ns, nl, nm, by omega⟩
set_option maxRecDepth 100000 in
theorem lw_20 {xs : List Int32} {i : Int} {N m : Nat} {t : TS} {P : Option Value → ab_W → Prop} (hi : 0 ≤ i ∧ i + 6 ≤ xs.length) (hx : xs.length ≤ 3072) (v : INV m t) (hm : m ≤ 600) (key : ∀ t', INV (m + 1) t' → Rn (bL_law xs (EX FU 100)) N 46 [some (.ref 1000001), some (.ref 0), some (.ref 68), some (.int (jI i))] [] (mk t') P) : Rn (bL_law xs (EX FU 100)) (N + 1) 20 [some (.ref 1000001), some (.ref 0), some (.ref 68), some (.int (jI i))] [] (mk t) P := by
  obtain ⟨ok, wf, wg, c1, c2, sl, g1, g2, rs, rl, rm, dl⟩ := v
  have s12 := ok.f fe_1_10
  have s13 := ok.f fe_12_10
  have i1 := g1.1.1
  have i3 := g1.1.2.2.1
  have x1 := xz_jr xs (i + 1)
  refine w_step rfl ?_
  refine w_aload rfl ?_
  refine w_aload rfl ?_
  refine w_iload rfl ?_
  refine w_push kc_1 ?_
  refine w_add ?_
  refine w_xs (j := 1) (by omega) hx ?_
  refine w_callV1I (oj_0 _).choose_spec rfl (c_X8_push (d := 96) ok (by omega) (by omega)) ?_
  rintro z1 t1 ⟨tt1, hp1⟩
  have ok1 : OK t1 := tt1 ▸ ok
  have fd1 : FrD [] t t1 := tt1 ▸ FrD.rf t
  have hl1 : (tD t1).length = (tD t).length := by rw [tt1]
  have f1 := fd1
  have h1 : ∀ p ∈ ([] : List (Nat × Nat)), p.1 < 68 := by simp
  have wf1 := wf.sm (grA f1 h1 69 (by decide))
  have wg1 := wg.sm (grA f1 h1 70 (by decide))
  have sl1 := sl_sm sl (grA f1 h1 86 (by decide)) (grA f1 h1 87 (by decide))
  have k69 := grA f1 h1 69 (by decide)
  have k1 := k69 1
  have k2 := k69 2
  refine w_popI ?_
  refine w_aload rfl ?_
  refine w_aload rfl ?_
  refine w_iload rfl ?_
  refine w_push kc_1 ?_
  refine w_add ?_
  refine w_xs (j := 1) (by omega) hx ?_
  refine w_callV1I (oj_68 _).choose_spec rfl (c_X9_push (d := 96) ok1 (by omega) (by omega)) ?_
  rintro z2 t2 ⟨tt2, hp2⟩
  have ok2 : OK t2 := tt2 ▸ ok1
  have fd2 : FrD [] t1 t2 := tt2 ▸ FrD.rf t1
  have hl2 : (tD t2).length = (tD t1).length := by rw [tt2]
  have h2 : ∀ p ∈ ([] : List (Nat × Nat)), 68 ≤ p.1 := by simp
  have wf2 := wf1.sm (fd2.2.1 69 (by simp))
  have wg2 := wg1.sm (fd2.2.1 70 (by simp))
  have sl2 := sl_sm sl1 (fd2.2.1 86 (by simp)) (fd2.2.1 87 (by simp))
  refine w_popI ?_
  refine w_goto ?_
  have n1 := RG.st g1 f1 fd2 h1 (by decide) (by simp [gX]) (by simp [gX]) (fd2.2.1 69 (by simp))
  have k9 := frI fd2 h2 0 9 (by decide)
  have k8 := f1.1 0 9 (by simp)
  have n2 : ¬ tI t2 0 9 = 0 → RG t2 t2 12 13 14 15 19 70 := fun hk => RG.st (g2 (fun q => hk (by rw [k9, k8, q]))) f1 fd2 h1 (by decide) (by simp [gX]) (by simp [gX]) (fd2.2.1 70 (by simp))
  have ns := RS.st rs f1 fd2 h1 h2 (by simp) (by simp)
  have nl := RW.st rl f1 fd2 h1 h2 (by simp) (by simp)
  have nm := RM.st rm f1 fd2 h1 h2 (by simp [mX]) (by simp [mY])
  have y1 := frI fd2 h2 1 13 (by decide)
  have y2 := frI fd2 h2 12 13 (by decide)
  have l1 := f1.1 1 13 (by simp)
  have l2 := f1.1 12 13 (by simp)
  have d1 : 0 ≤ tI t2 1 13 ∧ tI t2 1 13 ≤ 9999 := by omega
  have d2 : 0 ≤ tI t2 12 13 ∧ tI t2 12 13 ≤ 9999 := by omega
  exact key t2 ⟨ok2, wf2, wg2, d1, d2, sl2, n1, n2, ns, nl, nm, by omega⟩
set_option maxRecDepth 100000 in
theorem lw_21 {xs : List Int32} {i : Int} {N m : Nat} {t : TS} {P : Option Value → ab_W → Prop} (hi : 0 ≤ i ∧ i + 6 ≤ xs.length) (hx : xs.length ≤ 3072) (v : INV m t) (hm : m ≤ 600) (key : ∀ t', INV (m + 1) t' → Rn (bL_law xs (EX FU 100)) N 46 [some (.ref 1000001), some (.ref 0), some (.ref 68), some (.int (jI i))] [] (mk t') P) : Rn (bL_law xs (EX FU 100)) (N + 1) 21 [some (.ref 1000001), some (.ref 0), some (.ref 68), some (.int (jI i))] [] (mk t) P := by
  obtain ⟨ok, wf, wg, c1, c2, sl, g1, g2, rs, rl, rm, dl⟩ := v
  have s12 := ok.f fe_1_10
  have s13 := ok.f fe_12_10
  have i1 := g1.1.1
  have i3 := g1.1.2.2.1
  have x1 := xz_jr xs (i + 1)
  have x2 := xz_jr xs (i + 2)
  refine w_step rfl ?_
  refine w_aload rfl ?_
  refine w_aload rfl ?_
  refine w_iload rfl ?_
  refine w_push kc_1 ?_
  refine w_add ?_
  refine w_xs (j := 1) (by omega) hx ?_
  refine w_aload rfl ?_
  refine w_iload rfl ?_
  refine w_push kc_2 ?_
  refine w_add ?_
  refine w_xs (j := 1) (by omega) hx ?_
  refine w_callV2I (oj_0 _).choose_spec rfl (c_X8_behind (d := 93) ok (by omega) (by omega) (by omega) (by omega)) ?_
  rintro z1 t1 ⟨ok1, fq1, hp1⟩
  have hl1 := fq1.len
  have fd1 := fq1.toD
  have f1 := fd1
  have h1 : ∀ p ∈ [(24, 10), (24, 11), (24, 12), (24, 13), (24, 14), (25, 100), (26, 100), (27, 100), (28, 100), (29, 100), (30, 100), (31, 100), (32, 100), (34, 100), (33, 101)], p.1 < 68 := by decide
  have wf1 := wf.sm (grA f1 h1 69 (by decide))
  have wg1 := wg.sm (grA f1 h1 70 (by decide))
  have sl1 := sl_sm sl (grA f1 h1 86 (by decide)) (grA f1 h1 87 (by decide))
  have k69 := grA f1 h1 69 (by decide)
  have k1 := k69 1
  have k2 := k69 2
  refine w_popI ?_
  refine w_aload rfl ?_
  refine w_aload rfl ?_
  refine w_iload rfl ?_
  refine w_push kc_1 ?_
  refine w_add ?_
  refine w_xs (j := 1) (by omega) hx ?_
  refine w_aload rfl ?_
  refine w_iload rfl ?_
  refine w_push kc_2 ?_
  refine w_add ?_
  refine w_xs (j := 1) (by omega) hx ?_
  refine w_callV2I (oj_68 _).choose_spec rfl (c_X9_behind (d := 92) ok1 wf1 (by omega) (by omega) (by omega) (by omega)) ?_
  rintro z2 t2 ⟨ok2, fq2, hp2⟩
  have hl2 := fq2.len
  have fd2 := fq2.toD
  have h2 : ∀ p ∈ [(69, 100), (74, 100), (68, 4), (81, 100), (82, 100)], 68 ≤ p.1 := by decide
  have wg2 := wg1.sm (fq2.2.1 70 (by simp))
  have sl2 := sl_sm sl1 (fq2.2.1 86 (by simp)) (fq2.2.1 87 (by simp))
  have o3 := fq2.2.1 70 (by simp) 1
  have o4 := fq2.2.1 70 (by simp) 2
  have o5 := fq2.1 68 3 (by simp)
  have h69 := hp2.2.2
  have wf2 := wf1.sm h69
  have o1 := h69 1
  have o2 := h69 2
  refine w_popI ?_
  refine w_goto ?_
  have n1 := RG.sq g1 f1 fd2 h1 (by decide) (by simp [gX]) (by simp [gX]) (by omega) (fun i hi => hp2.2.2 i)
  have k9 := frI fd2 h2 0 9 (by decide)
  have k8 := f1.1 0 9 (by simp)
  have n2 : ¬ tI t2 0 9 = 0 → RG t2 t2 12 13 14 15 19 70 := fun hk => RG.st (g2 (fun q => hk (by rw [k9, k8, q]))) f1 fd2 h1 (by decide) (by simp [gX]) (by simp [gX]) (fd2.2.1 70 (by simp))
  have ns := RS.st rs f1 fd2 h1 h2 (by decide) (by decide)
  have nl := RW.st rl f1 fd2 h1 h2 (by decide) (by decide)
  have nm := RM.st rm f1 fd2 h1 h2 (by simp [mX]) (by simp [mY])
  have y1 := frI fd2 h2 1 13 (by decide)
  have y2 := frI fd2 h2 12 13 (by decide)
  have l1 := f1.1 1 13 (by simp)
  have l2 := f1.1 12 13 (by simp)
  have d1 : 0 ≤ tI t2 1 13 ∧ tI t2 1 13 ≤ 9999 := by omega
  have d2 : 0 ≤ tI t2 12 13 ∧ tI t2 12 13 ≤ 9999 := by omega
  exact key t2 ⟨ok2, wf2, wg2, d1, d2, sl2, n1, n2, ns, nl, nm, by omega⟩
set_option maxRecDepth 100000 in
theorem lw_22 {xs : List Int32} {i : Int} {N m : Nat} {t : TS} {P : Option Value → ab_W → Prop} (hi : 0 ≤ i ∧ i + 6 ≤ xs.length) (hx : xs.length ≤ 3072) (v : INV m t) (hm : m ≤ 600) (key : ∀ t', INV (m + 1) t' → Rn (bL_law xs (EX FU 100)) N 46 [some (.ref 1000001), some (.ref 0), some (.ref 68), some (.int (jI i))] [] (mk t') P) : Rn (bL_law xs (EX FU 100)) (N + 1) 22 [some (.ref 1000001), some (.ref 0), some (.ref 68), some (.int (jI i))] [] (mk t) P := by
  obtain ⟨ok, wf, wg, c1, c2, sl, g1, g2, rs, rl, rm, dl⟩ := v
  have s12 := ok.f fe_1_10
  have s13 := ok.f fe_12_10
  have i1 := g1.1.1
  have i3 := g1.1.2.2.1
  refine w_step rfl ?_
  refine w_aload rfl ?_
  refine w_callV0I (oj_0 _).choose_spec rfl (c_X8_laid (d := 94) ok ) ?_
  rintro z1 t1 ⟨ok1, fq1, hp1⟩
  have hl1 := fq1.len
  have fd1 := fq1.toD
  have f1 := fd1
  have h1 : ∀ p ∈ [(24, 10), (24, 11), (24, 12), (24, 13), (24, 14), (25, 100), (26, 100), (27, 100), (28, 100), (29, 100), (30, 100), (31, 100), (32, 100), (34, 100), (33, 101)], p.1 < 68 := by decide
  have wf1 := wf.sm (grA f1 h1 69 (by decide))
  have wg1 := wg.sm (grA f1 h1 70 (by decide))
  have sl1 := sl_sm sl (grA f1 h1 86 (by decide)) (grA f1 h1 87 (by decide))
  have k69 := grA f1 h1 69 (by decide)
  have k1 := k69 1
  have k2 := k69 2
  refine w_popI ?_
  refine w_aload rfl ?_
  refine w_callV0I (oj_68 _).choose_spec rfl (c_X9_laid (d := 93) ok1 wf1) ?_
  rintro z2 t2 ⟨ok2, fq2, hp2⟩
  have hl2 := fq2.len
  have fd2 := fq2.toD
  have h2 : ∀ p ∈ [(69, 100), (74, 100), (68, 4), (81, 100), (82, 100)], 68 ≤ p.1 := by decide
  have wg2 := wg1.sm (fq2.2.1 70 (by simp))
  have sl2 := sl_sm sl1 (fq2.2.1 86 (by simp)) (fq2.2.1 87 (by simp))
  have o3 := fq2.2.1 70 (by simp) 1
  have o4 := fq2.2.1 70 (by simp) 2
  have o5 := fq2.1 68 3 (by simp)
  have h69 := hp2.2.2
  have wf2 := wf1.sm h69
  have o1 := h69 1
  have o2 := h69 2
  refine w_popI ?_
  refine w_goto ?_
  have n1 := RG.sq g1 f1 fd2 h1 (by decide) (by simp [gX]) (by simp [gX]) (by omega) (fun i hi => hp2.2.2 i)
  have k9 := frI fd2 h2 0 9 (by decide)
  have k8 := f1.1 0 9 (by simp)
  have n2 : ¬ tI t2 0 9 = 0 → RG t2 t2 12 13 14 15 19 70 := fun hk => RG.st (g2 (fun q => hk (by rw [k9, k8, q]))) f1 fd2 h1 (by decide) (by simp [gX]) (by simp [gX]) (fd2.2.1 70 (by simp))
  have ns := RS.st rs f1 fd2 h1 h2 (by decide) (by decide)
  have nl := RW.st rl f1 fd2 h1 h2 (by decide) (by decide)
  have nm := RM.st rm f1 fd2 h1 h2 (by simp [mX]) (by simp [mY])
  have y1 := frI fd2 h2 1 13 (by decide)
  have y2 := frI fd2 h2 12 13 (by decide)
  have l1 := f1.1 1 13 (by simp)
  have l2 := f1.1 12 13 (by simp)
  have d1 : 0 ≤ tI t2 1 13 ∧ tI t2 1 13 ≤ 9999 := by omega
  have d2 : 0 ≤ tI t2 12 13 ∧ tI t2 12 13 ≤ 9999 := by omega
  exact key t2 ⟨ok2, wf2, wg2, d1, d2, sl2, n1, n2, ns, nl, nm, by omega⟩
set_option maxRecDepth 100000 in
theorem lw_23 {xs : List Int32} {i : Int} {N m : Nat} {t : TS} {P : Option Value → ab_W → Prop} (hi : 0 ≤ i ∧ i + 6 ≤ xs.length) (hx : xs.length ≤ 3072) (v : INV m t) (hm : m ≤ 600) (key : ∀ t', INV (m + 1) t' → Rn (bL_law xs (EX FU 100)) N 46 [some (.ref 1000001), some (.ref 0), some (.ref 68), some (.int (jI i))] [] (mk t') P) : Rn (bL_law xs (EX FU 100)) (N + 1) 23 [some (.ref 1000001), some (.ref 0), some (.ref 68), some (.int (jI i))] [] (mk t) P := by
  obtain ⟨ok, wf, wg, c1, c2, sl, g1, g2, rs, rl, rm, dl⟩ := v
  have s12 := ok.f fe_1_10
  have s13 := ok.f fe_12_10
  have i1 := g1.1.1
  have i3 := g1.1.2.2.1
  have x1 := xz_jr xs (i + 1)
  have x2 := xz_jr xs (i + 2)
  refine w_step rfl ?_
  refine w_aload rfl ?_
  refine w_aload rfl ?_
  refine w_iload rfl ?_
  refine w_push kc_1 ?_
  refine w_add ?_
  refine w_xs (j := 1) (by omega) hx ?_
  refine w_aload rfl ?_
  refine w_iload rfl ?_
  refine w_push kc_2 ?_
  refine w_add ?_
  refine w_xs (j := 1) (by omega) hx ?_
  refine w_callV2I (oj_0 _).choose_spec rfl (c_X8_lost (d := 93) ok (by omega) (by omega) (by omega) (by omega)) ?_
  rintro z1 t1 ⟨ok1, fq1, hp1⟩
  have hl1 := fq1.len
  have fd1 := fq1.toD
  have f1 := fd1
  have h1 : ∀ p ∈ [(24, 10), (24, 11), (24, 12), (24, 13), (24, 14), (25, 100), (26, 100), (27, 100), (28, 100), (29, 100), (30, 100), (31, 100), (32, 100), (34, 100), (33, 101)], p.1 < 68 := by decide
  have wf1 := wf.sm (grA f1 h1 69 (by decide))
  have wg1 := wg.sm (grA f1 h1 70 (by decide))
  have sl1 := sl_sm sl (grA f1 h1 86 (by decide)) (grA f1 h1 87 (by decide))
  have k69 := grA f1 h1 69 (by decide)
  have k1 := k69 1
  have k2 := k69 2
  refine w_popI ?_
  refine w_aload rfl ?_
  refine w_aload rfl ?_
  refine w_iload rfl ?_
  refine w_push kc_1 ?_
  refine w_add ?_
  refine w_xs (j := 1) (by omega) hx ?_
  refine w_aload rfl ?_
  refine w_iload rfl ?_
  refine w_push kc_2 ?_
  refine w_add ?_
  refine w_xs (j := 1) (by omega) hx ?_
  refine w_callV2I (oj_68 _).choose_spec rfl (c_X9_lost (d := 92) ok1 wf1 (by omega) (by omega) (by omega) (by omega)) ?_
  rintro z2 t2 ⟨ok2, fq2, hp2⟩
  have hl2 := fq2.len
  have fd2 := fq2.toD
  have h2 : ∀ p ∈ [(69, 100), (74, 100), (68, 4), (81, 100), (82, 100)], 68 ≤ p.1 := by decide
  have wg2 := wg1.sm (fq2.2.1 70 (by simp))
  have sl2 := sl_sm sl1 (fq2.2.1 86 (by simp)) (fq2.2.1 87 (by simp))
  have o3 := fq2.2.1 70 (by simp) 1
  have o4 := fq2.2.1 70 (by simp) 2
  have o5 := fq2.1 68 3 (by simp)
  have h69 := hp2.2.2
  have wf2 := wf1.sm h69
  have o1 := h69 1
  have o2 := h69 2
  refine w_popI ?_
  refine w_goto ?_
  have n1 := RG.sq g1 f1 fd2 h1 (by decide) (by simp [gX]) (by simp [gX]) (by omega) (fun i hi => hp2.2.2 i)
  have k9 := frI fd2 h2 0 9 (by decide)
  have k8 := f1.1 0 9 (by simp)
  have n2 : ¬ tI t2 0 9 = 0 → RG t2 t2 12 13 14 15 19 70 := fun hk => RG.st (g2 (fun q => hk (by rw [k9, k8, q]))) f1 fd2 h1 (by decide) (by simp [gX]) (by simp [gX]) (fd2.2.1 70 (by simp))
  have ns := RS.st rs f1 fd2 h1 h2 (by decide) (by decide)
  have nl := RW.st rl f1 fd2 h1 h2 (by decide) (by decide)
  have nm := RM.st rm f1 fd2 h1 h2 (by simp [mX]) (by simp [mY])
  have y1 := frI fd2 h2 1 13 (by decide)
  have y2 := frI fd2 h2 12 13 (by decide)
  have l1 := f1.1 1 13 (by simp)
  have l2 := f1.1 12 13 (by simp)
  have d1 : 0 ≤ tI t2 1 13 ∧ tI t2 1 13 ≤ 9999 := by omega
  have d2 : 0 ≤ tI t2 12 13 ∧ tI t2 12 13 ≤ 9999 := by omega
  exact key t2 ⟨ok2, wf2, wg2, d1, d2, sl2, n1, n2, ns, nl, nm, by omega⟩
set_option maxRecDepth 100000 in
theorem lw_24 {xs : List Int32} {i : Int} {N m : Nat} {t : TS} {P : Option Value → ab_W → Prop} (hi : 0 ≤ i ∧ i + 6 ≤ xs.length) (hx : xs.length ≤ 3072) (v : INV m t) (hm : m ≤ 600) (key : ∀ t', INV (m + 1) t' → Rn (bL_law xs (EX FU 100)) N 46 [some (.ref 1000001), some (.ref 0), some (.ref 68), some (.int (jI i))] [] (mk t') P) : Rn (bL_law xs (EX FU 100)) (N + 1) 24 [some (.ref 1000001), some (.ref 0), some (.ref 68), some (.int (jI i))] [] (mk t) P := by
  obtain ⟨ok, wf, wg, c1, c2, sl, g1, g2, rs, rl, rm, dl⟩ := v
  have s12 := ok.f fe_1_10
  have s13 := ok.f fe_12_10
  have i1 := g1.1.1
  have i3 := g1.1.2.2.1
  have x1 := xz_jr xs (i + 1)
  have x2 := xz_jr xs (i + 2)
  refine w_step rfl ?_
  refine w_aload rfl ?_
  refine w_aload rfl ?_
  refine w_iload rfl ?_
  refine w_push kc_1 ?_
  refine w_add ?_
  refine w_xs (j := 1) (by omega) hx ?_
  refine w_aload rfl ?_
  refine w_iload rfl ?_
  refine w_push kc_2 ?_
  refine w_add ?_
  refine w_xs (j := 1) (by omega) hx ?_
  refine w_callV2I (oj_0 _).choose_spec rfl (c_X8_seen (d := 96) ok (by omega) (by omega) (by omega) (by omega)) ?_
  rintro z1 t1 ⟨tt1, hp1⟩
  have ok1 : OK t1 := tt1 ▸ ok
  have fd1 : FrD [] t t1 := tt1 ▸ FrD.rf t
  have hl1 : (tD t1).length = (tD t).length := by rw [tt1]
  have f1 := fd1
  have h1 : ∀ p ∈ ([] : List (Nat × Nat)), p.1 < 68 := by simp
  have wf1 := wf.sm (grA f1 h1 69 (by decide))
  have wg1 := wg.sm (grA f1 h1 70 (by decide))
  have sl1 := sl_sm sl (grA f1 h1 86 (by decide)) (grA f1 h1 87 (by decide))
  have k69 := grA f1 h1 69 (by decide)
  have k1 := k69 1
  have k2 := k69 2
  refine w_popI ?_
  refine w_aload rfl ?_
  refine w_aload rfl ?_
  refine w_iload rfl ?_
  refine w_push kc_1 ?_
  refine w_add ?_
  refine w_xs (j := 1) (by omega) hx ?_
  refine w_aload rfl ?_
  refine w_iload rfl ?_
  refine w_push kc_2 ?_
  refine w_add ?_
  refine w_xs (j := 1) (by omega) hx ?_
  refine w_callV2I (oj_68 _).choose_spec rfl (c_X9_seen (d := 94) ok1 wf1 (by omega) (by omega) (by omega) (by omega)) ?_
  rintro z2 t2 ⟨ok2, fq2, hp2⟩
  have hl2 := fq2.len
  have fd2 := fq2.toD
  have h2 : ∀ p ∈ [(81, 100), (82, 100)], 68 ≤ p.1 := by decide
  have wf2 := wf1.sm (fd2.2.1 69 (by simp))
  have wg2 := wg1.sm (fd2.2.1 70 (by simp))
  have sl2 := sl_sm sl1 (fd2.2.1 86 (by simp)) (fd2.2.1 87 (by simp))
  refine w_popI ?_
  refine w_goto ?_
  have n1 := RG.st g1 f1 fd2 h1 (by decide) (by simp [gX]) (by simp [gX]) (fd2.2.1 69 (by simp))
  have k9 := frI fd2 h2 0 9 (by decide)
  have k8 := f1.1 0 9 (by simp)
  have n2 : ¬ tI t2 0 9 = 0 → RG t2 t2 12 13 14 15 19 70 := fun hk => RG.st (g2 (fun q => hk (by rw [k9, k8, q]))) f1 fd2 h1 (by decide) (by simp [gX]) (by simp [gX]) (fd2.2.1 70 (by simp))
  have ns := RS.st rs f1 fd2 h1 h2 (by simp) (by decide)
  have nl := RW.st rl f1 fd2 h1 h2 (by simp) (by decide)
  have nm := RM.st rm f1 fd2 h1 h2 (by simp [mX]) (by simp [mY])
  have y1 := frI fd2 h2 1 13 (by decide)
  have y2 := frI fd2 h2 12 13 (by decide)
  have l1 := f1.1 1 13 (by simp)
  have l2 := f1.1 12 13 (by simp)
  have d1 : 0 ≤ tI t2 1 13 ∧ tI t2 1 13 ≤ 9999 := by omega
  have d2 : 0 ≤ tI t2 12 13 ∧ tI t2 12 13 ≤ 9999 := by omega
  exact key t2 ⟨ok2, wf2, wg2, d1, d2, sl2, n1, n2, ns, nl, nm, by omega⟩
set_option maxRecDepth 100000 in
theorem lw_25 {xs : List Int32} {i : Int} {N m : Nat} {t : TS} {P : Option Value → ab_W → Prop} (hi : 0 ≤ i ∧ i + 6 ≤ xs.length) (hx : xs.length ≤ 3072) (v : INV m t) (hm : m ≤ 600) (key : ∀ t', INV (m + 1) t' → Rn (bL_law xs (EX FU 100)) N 46 [some (.ref 1000001), some (.ref 0), some (.ref 68), some (.int (jI i))] [] (mk t') P) : Rn (bL_law xs (EX FU 100)) (N + 1) 25 [some (.ref 1000001), some (.ref 0), some (.ref 68), some (.int (jI i))] [] (mk t) P := by
  obtain ⟨ok, wf, wg, c1, c2, sl, g1, g2, rs, rl, rm, dl⟩ := v
  have s12 := ok.f fe_1_10
  have s13 := ok.f fe_12_10
  have i1 := g1.1.1
  have i3 := g1.1.2.2.1
  refine w_step rfl ?_
  refine w_aload rfl ?_
  refine w_callV0I (oj_0 _).choose_spec rfl (c_X8_fee (d := 96) ok ) ?_
  rintro z1 t1 ⟨ok1, fq1, hp1⟩
  have hl1 := fq1.len
  have fd1 := fq1.toD
  have f1 := fd1
  have h1 : ∀ p ∈ ([] : List (Nat × Nat)), p.1 < 68 := by simp
  have wf1 := wf.sm (grA f1 h1 69 (by decide))
  have wg1 := wg.sm (grA f1 h1 70 (by decide))
  have sl1 := sl_sm sl (grA f1 h1 86 (by decide)) (grA f1 h1 87 (by decide))
  have k69 := grA f1 h1 69 (by decide)
  have k1 := k69 1
  have k2 := k69 2
  refine w_popI ?_
  refine w_aload rfl ?_
  refine w_callV0I (oj_68 _).choose_spec rfl (c_X9_fee (d := 94) ok1 wf1) ?_
  rintro z2 t2 ⟨ok2, fq2, hp2⟩
  have hl2 := fq2.len
  have fd2 := fq2.toD
  have h2 : ∀ p ∈ [(81, 100), (82, 100)], 68 ≤ p.1 := by decide
  have wf2 := wf1.sm (fd2.2.1 69 (by simp))
  have wg2 := wg1.sm (fd2.2.1 70 (by simp))
  have sl2 := sl_sm sl1 (fd2.2.1 86 (by simp)) (fd2.2.1 87 (by simp))
  refine w_popI ?_
  refine w_goto ?_
  have n1 := RG.st g1 f1 fd2 h1 (by decide) (by simp [gX]) (by simp [gX]) (fd2.2.1 69 (by simp))
  have k9 := frI fd2 h2 0 9 (by decide)
  have k8 := f1.1 0 9 (by simp)
  have n2 : ¬ tI t2 0 9 = 0 → RG t2 t2 12 13 14 15 19 70 := fun hk => RG.st (g2 (fun q => hk (by rw [k9, k8, q]))) f1 fd2 h1 (by decide) (by simp [gX]) (by simp [gX]) (fd2.2.1 70 (by simp))
  have ns := RS.st rs f1 fd2 h1 h2 (by simp) (by decide)
  have nl := RW.st rl f1 fd2 h1 h2 (by simp) (by decide)
  have nm := RM.st rm f1 fd2 h1 h2 (by simp [mX]) (by simp [mY])
  have y1 := frI fd2 h2 1 13 (by decide)
  have y2 := frI fd2 h2 12 13 (by decide)
  have l1 := f1.1 1 13 (by simp)
  have l2 := f1.1 12 13 (by simp)
  have d1 : 0 ≤ tI t2 1 13 ∧ tI t2 1 13 ≤ 9999 := by omega
  have d2 : 0 ≤ tI t2 12 13 ∧ tI t2 12 13 ≤ 9999 := by omega
  exact key t2 ⟨ok2, wf2, wg2, d1, d2, sl2, n1, n2, ns, nl, nm, by omega⟩
set_option maxRecDepth 100000 in
theorem lw_26 {xs : List Int32} {i : Int} {N m : Nat} {t : TS} {P : Option Value → ab_W → Prop} (hi : 0 ≤ i ∧ i + 6 ≤ xs.length) (hx : xs.length ≤ 3072) (v : INV m t) (hm : m ≤ 600) (key : ∀ t', INV (m + 1) t' → Rn (bL_law xs (EX FU 100)) N 46 [some (.ref 1000001), some (.ref 0), some (.ref 68), some (.int (jI i))] [] (mk t') P) : Rn (bL_law xs (EX FU 100)) (N + 1) 26 [some (.ref 1000001), some (.ref 0), some (.ref 68), some (.int (jI i))] [] (mk t) P := by
  obtain ⟨ok, wf, wg, c1, c2, sl, g1, g2, rs, rl, rm, dl⟩ := v
  have s12 := ok.f fe_1_10
  have s13 := ok.f fe_12_10
  have i1 := g1.1.1
  have i3 := g1.1.2.2.1
  have x1 := xz_jr xs (i + 1)
  refine w_step rfl ?_
  refine w_aload rfl ?_
  refine w_aload rfl ?_
  refine w_iload rfl ?_
  refine w_push kc_1 ?_
  refine w_add ?_
  refine w_xs (j := 1) (by omega) hx ?_
  refine w_callV1I (oj_0 _).choose_spec rfl (c_X8_fine (d := 96) ok (by omega) (by omega)) ?_
  rintro z1 t1 ⟨ok1, fq1, hp1⟩
  have hl1 := fq1.len
  have fd1 := fq1.toD
  have f1 := fd1
  have h1 : ∀ p ∈ ([] : List (Nat × Nat)), p.1 < 68 := by simp
  have wf1 := wf.sm (grA f1 h1 69 (by decide))
  have wg1 := wg.sm (grA f1 h1 70 (by decide))
  have sl1 := sl_sm sl (grA f1 h1 86 (by decide)) (grA f1 h1 87 (by decide))
  have k69 := grA f1 h1 69 (by decide)
  have k1 := k69 1
  have k2 := k69 2
  refine w_popI ?_
  refine w_aload rfl ?_
  refine w_aload rfl ?_
  refine w_iload rfl ?_
  refine w_push kc_1 ?_
  refine w_add ?_
  refine w_xs (j := 1) (by omega) hx ?_
  refine w_callV1I (oj_68 _).choose_spec rfl (c_X9_fine (d := 97) ok1 wf1 (by omega) (by omega)) ?_
  rintro z2 t2 ⟨ok2, fq2, hp2⟩
  have hl2 := fq2.len
  have fd2 := fq2.toD
  have h2 : ∀ p ∈ [(81, 100), (82, 100)], 68 ≤ p.1 := by decide
  have wf2 := wf1.sm (fd2.2.1 69 (by simp))
  have wg2 := wg1.sm (fd2.2.1 70 (by simp))
  have sl2 := sl_sm sl1 (fd2.2.1 86 (by simp)) (fd2.2.1 87 (by simp))
  refine w_popI ?_
  refine w_goto ?_
  have n1 := RG.st g1 f1 fd2 h1 (by decide) (by simp [gX]) (by simp [gX]) (fd2.2.1 69 (by simp))
  have k9 := frI fd2 h2 0 9 (by decide)
  have k8 := f1.1 0 9 (by simp)
  have n2 : ¬ tI t2 0 9 = 0 → RG t2 t2 12 13 14 15 19 70 := fun hk => RG.st (g2 (fun q => hk (by rw [k9, k8, q]))) f1 fd2 h1 (by decide) (by simp [gX]) (by simp [gX]) (fd2.2.1 70 (by simp))
  have ns := RS.st rs f1 fd2 h1 h2 (by simp) (by decide)
  have nl := RW.st rl f1 fd2 h1 h2 (by simp) (by decide)
  have nm := RM.st rm f1 fd2 h1 h2 (by simp [mX]) (by simp [mY])
  have y1 := frI fd2 h2 1 13 (by decide)
  have y2 := frI fd2 h2 12 13 (by decide)
  have l1 := f1.1 1 13 (by simp)
  have l2 := f1.1 12 13 (by simp)
  have d1 : 0 ≤ tI t2 1 13 ∧ tI t2 1 13 ≤ 9999 := by omega
  have d2 : 0 ≤ tI t2 12 13 ∧ tI t2 12 13 ≤ 9999 := by omega
  exact key t2 ⟨ok2, wf2, wg2, d1, d2, sl2, n1, n2, ns, nl, nm, by omega⟩
set_option maxRecDepth 100000 in
theorem lw_27 {xs : List Int32} {i : Int} {N m : Nat} {t : TS} {P : Option Value → ab_W → Prop} (hi : 0 ≤ i ∧ i + 6 ≤ xs.length) (hx : xs.length ≤ 3072) (v : INV m t) (hm : m ≤ 600) (key : ∀ t', INV (m + 1) t' → Rn (bL_law xs (EX FU 100)) N 46 [some (.ref 1000001), some (.ref 0), some (.ref 68), some (.int (jI i))] [] (mk t') P) : Rn (bL_law xs (EX FU 100)) (N + 1) 27 [some (.ref 1000001), some (.ref 0), some (.ref 68), some (.int (jI i))] [] (mk t) P := by
  obtain ⟨ok, wf, wg, c1, c2, sl, g1, g2, rs, rl, rm, dl⟩ := v
  have s12 := ok.f fe_1_10
  have s13 := ok.f fe_12_10
  have i1 := g1.1.1
  have i3 := g1.1.2.2.1
  have x1 := xz_jr xs (i + 1)
  have x2 := xz_jr xs (i + 2)
  have x3 := xz_jr xs (i + 3)
  refine w_step rfl ?_
  refine w_aload rfl ?_
  refine w_aload rfl ?_
  refine w_iload rfl ?_
  refine w_push kc_1 ?_
  refine w_add ?_
  refine w_xs (j := 1) (by omega) hx ?_
  refine w_aload rfl ?_
  refine w_iload rfl ?_
  refine w_push kc_2 ?_
  refine w_add ?_
  refine w_xs (j := 1) (by omega) hx ?_
  refine w_aload rfl ?_
  refine w_iload rfl ?_
  refine w_push kc_3 ?_
  refine w_add ?_
  refine w_xs (j := 1) (by omega) hx ?_
  refine w_callV3I (oj_0 _).choose_spec rfl (c_X8_feed (d := 98) ok (by omega) (by omega) (by omega) (by omega) (by omega) (by omega)) ?_
  rintro z1 t1 ⟨ok1, fq1, hp1⟩
  have hl1 := fq1.len
  have fd1 := fq1.toD
  have f1 := fd1
  have h1 : ∀ p ∈ [(37, 1), (38, 100)], p.1 < 68 := by decide
  have wf1 := wf.sm (grA f1 h1 69 (by decide))
  have wg1 := wg.sm (grA f1 h1 70 (by decide))
  have sl1 := sl_sm sl (grA f1 h1 86 (by decide)) (grA f1 h1 87 (by decide))
  have k69 := grA f1 h1 69 (by decide)
  have k1 := k69 1
  have k2 := k69 2
  refine w_popI ?_
  refine w_aload rfl ?_
  refine w_aload rfl ?_
  refine w_iload rfl ?_
  refine w_push kc_1 ?_
  refine w_add ?_
  refine w_xs (j := 1) (by omega) hx ?_
  refine w_aload rfl ?_
  refine w_iload rfl ?_
  refine w_push kc_2 ?_
  refine w_add ?_
  refine w_xs (j := 1) (by omega) hx ?_
  refine w_aload rfl ?_
  refine w_iload rfl ?_
  refine w_push kc_3 ?_
  refine w_add ?_
  refine w_xs (j := 1) (by omega) hx ?_
  refine w_callV3I (oj_68 _).choose_spec rfl (c_X9_feed (d := 99) ok1 (by omega) (by omega) (by omega) (by omega) (by omega) (by omega)) ?_
  rintro z2 t2 ⟨ok2, fq2, hp2⟩
  have hl2 := fq2.len
  have fd2 := fq2.toD
  have h2 : ∀ p ∈ [(68, 9), (75, 100)], 68 ≤ p.1 := by decide
  have wf2 := wf1.sm (fd2.2.1 69 (by simp))
  have wg2 := wg1.sm (fd2.2.1 70 (by simp))
  have sl2 := sl_sm sl1 (fd2.2.1 86 (by simp)) (fd2.2.1 87 (by simp))
  refine w_popI ?_
  refine w_goto ?_
  obtain ⟨zz, nm⟩ := br_27 fd1 fd2 rm hp1 hp2
  have n1 := RG.st g1 f1 fd2 h1 (by decide) (by simp [gX]) (by simp [gX]) (fd2.2.1 69 (by simp))
  have k9 := frI fd2 h2 0 9 (by decide)
  have k8 := f1.1 0 9 (by simp)
  have n2 : ¬ tI t2 0 9 = 0 → RG t2 t2 12 13 14 15 19 70 := fun hk => RG.st (g2 (fun q => hk (by rw [k9, k8, q]))) f1 fd2 h1 (by decide) (by simp [gX]) (by simp [gX]) (fd2.2.1 70 (by simp))
  have ns := RS.st rs f1 fd2 h1 h2 (by decide) (by decide)
  have nl := RW.st rl f1 fd2 h1 h2 (by decide) (by decide)
  have y1 := frI fd2 h2 1 13 (by decide)
  have y2 := frI fd2 h2 12 13 (by decide)
  have l1 := f1.1 1 13 (by simp)
  have l2 := f1.1 12 13 (by simp)
  have d1 : 0 ≤ tI t2 1 13 ∧ tI t2 1 13 ≤ 9999 := by omega
  have d2 : 0 ≤ tI t2 12 13 ∧ tI t2 12 13 ≤ 9999 := by omega
  exact key t2 ⟨ok2, wf2, wg2, d1, d2, sl2, n1, n2, ns, nl, nm, by omega⟩
set_option maxRecDepth 100000 in
theorem lw_28 {xs : List Int32} {i : Int} {N m : Nat} {t : TS} {P : Option Value → ab_W → Prop} (hi : 0 ≤ i ∧ i + 6 ≤ xs.length) (hx : xs.length ≤ 3072) (v : INV m t) (hm : m ≤ 600) (key : ∀ t', INV (m + 1) t' → Rn (bL_law xs (EX FU 100)) N 46 [some (.ref 1000001), some (.ref 0), some (.ref 68), some (.int (jI i))] [] (mk t') P) : Rn (bL_law xs (EX FU 100)) (N + 1) 28 [some (.ref 1000001), some (.ref 0), some (.ref 68), some (.int (jI i))] [] (mk t) P := by
  obtain ⟨ok, wf, wg, c1, c2, sl, g1, g2, rs, rl, rm, dl⟩ := v
  have s12 := ok.f fe_1_10
  have s13 := ok.f fe_12_10
  have i1 := g1.1.1
  have i3 := g1.1.2.2.1
  have x1 := xz_jr xs (i + 1)
  refine w_step rfl ?_
  refine w_aload rfl ?_
  refine w_aload rfl ?_
  refine w_iload rfl ?_
  refine w_push kc_1 ?_
  refine w_add ?_
  refine w_xs (j := 1) (by omega) hx ?_
  refine w_callV1I (oj_0 _).choose_spec rfl (c_X8_trim (d := 98) ok (by omega) (by omega)) ?_
  rintro z1 t1 ⟨ok1, fq1, hp1⟩
  have hl1 := fq1.len
  have fd1 := fq1.toD
  have f1 := fd1
  have h1 : ∀ p ∈ [(37, 1)], p.1 < 68 := by decide
  have wf1 := wf.sm (grA f1 h1 69 (by decide))
  have wg1 := wg.sm (grA f1 h1 70 (by decide))
  have sl1 := sl_sm sl (grA f1 h1 86 (by decide)) (grA f1 h1 87 (by decide))
  have k69 := grA f1 h1 69 (by decide)
  have k1 := k69 1
  have k2 := k69 2
  refine w_popI ?_
  refine w_aload rfl ?_
  refine w_aload rfl ?_
  refine w_iload rfl ?_
  refine w_push kc_1 ?_
  refine w_add ?_
  refine w_xs (j := 1) (by omega) hx ?_
  refine w_callV1I (oj_68 _).choose_spec rfl (c_X9_trim (d := 98) ok1 (by omega) (by omega)) ?_
  rintro z2 t2 ⟨ok2, fq2, hp2⟩
  have hl2 := fq2.len
  have fd2 := fq2.toD
  have h2 : ∀ p ∈ [(68, 9)], 68 ≤ p.1 := by decide
  have wf2 := wf1.sm (fd2.2.1 69 (by simp))
  have wg2 := wg1.sm (fd2.2.1 70 (by simp))
  have sl2 := sl_sm sl1 (fd2.2.1 86 (by simp)) (fd2.2.1 87 (by simp))
  refine w_popI ?_
  refine w_goto ?_
  obtain ⟨zz, nm⟩ := br_28 fd1 fd2 rm hp1 hp2
  have n1 := RG.st g1 f1 fd2 h1 (by decide) (by simp [gX]) (by simp [gX]) (fd2.2.1 69 (by simp))
  have k9 := frI fd2 h2 0 9 (by decide)
  have k8 := f1.1 0 9 (by simp)
  have n2 : ¬ tI t2 0 9 = 0 → RG t2 t2 12 13 14 15 19 70 := fun hk => RG.st (g2 (fun q => hk (by rw [k9, k8, q]))) f1 fd2 h1 (by decide) (by simp [gX]) (by simp [gX]) (fd2.2.1 70 (by simp))
  have ns := RS.st rs f1 fd2 h1 h2 (by decide) (by decide)
  have nl := RW.st rl f1 fd2 h1 h2 (by decide) (by decide)
  have y1 := frI fd2 h2 1 13 (by decide)
  have y2 := frI fd2 h2 12 13 (by decide)
  have l1 := f1.1 1 13 (by simp)
  have l2 := f1.1 12 13 (by simp)
  have d1 : 0 ≤ tI t2 1 13 ∧ tI t2 1 13 ≤ 9999 := by omega
  have d2 : 0 ≤ tI t2 12 13 ∧ tI t2 12 13 ≤ 9999 := by omega
  exact key t2 ⟨ok2, wf2, wg2, d1, d2, sl2, n1, n2, ns, nl, nm, by omega⟩
set_option maxRecDepth 100000 in
theorem lw_29 {xs : List Int32} {i : Int} {N m : Nat} {t : TS} {P : Option Value → ab_W → Prop} (hi : 0 ≤ i ∧ i + 6 ≤ xs.length) (hx : xs.length ≤ 3072) (v : INV m t) (hm : m ≤ 600) (key : ∀ t', INV (m + 1) t' → Rn (bL_law xs (EX FU 100)) N 46 [some (.ref 1000001), some (.ref 0), some (.ref 68), some (.int (jI i))] [] (mk t') P) : Rn (bL_law xs (EX FU 100)) (N + 1) 29 [some (.ref 1000001), some (.ref 0), some (.ref 68), some (.int (jI i))] [] (mk t) P := by
  obtain ⟨ok, wf, wg, c1, c2, sl, g1, g2, rs, rl, rm, dl⟩ := v
  have s12 := ok.f fe_1_10
  have s13 := ok.f fe_12_10
  have i1 := g1.1.1
  have i3 := g1.1.2.2.1
  refine w_step rfl ?_
  refine w_aload rfl ?_
  refine w_callV0I (oj_0 _).choose_spec rfl (c_X8_text (d := 14) ok (by omega)) ?_
  rintro z1 t1 ⟨ok1, fd1, hl1, hp1⟩
  have f1 := fd1
  have h1 : ∀ p ∈ [(39, 0), (39, 4), (39, 5), (39, 7), (39, 8), (39, 9), (39, 10), (40, 100), (41, 100), (39, 6), (37, 1), (1, 11), (10, 101), (11, 100), (9, 100)], p.1 < 68 := by decide
  have wf1 := wf.sm (grA f1 h1 69 (by decide))
  have wg1 := wg.sm (grA f1 h1 70 (by decide))
  have sl1 := sl_sm sl (grA f1 h1 86 (by decide)) (grA f1 h1 87 (by decide))
  have k69 := grA f1 h1 69 (by decide)
  have k1 := k69 1
  have k2 := k69 2
  refine w_popI ?_
  refine w_aload rfl ?_
  refine w_callV0I (oj_68 _).choose_spec rfl (c_X9_text (d := 95) ok1 wf1) ?_
  rintro z2 t2 ⟨ok2, fq2, hp2⟩
  have hl2 := fq2.len
  have fd2 := fq2.toD
  have h2 : ∀ p ∈ [(68, 10), (68, 11), (68, 12), (68, 13), (68, 14), (68, 9), (68, 15), (68, 19), (68, 20), (68, 22), (69, 100), (78, 100), (79, 100), (80, 100)], 68 ≤ p.1 := by decide
  have wg2 := wg1.sm (fq2.2.1 70 (by simp))
  have sl2 := sl_sm sl1 (fq2.2.1 86 (by simp)) (fq2.2.1 87 (by simp))
  have o3 := fq2.2.1 70 (by simp) 1
  have o4 := fq2.2.1 70 (by simp) 2
  have o5 := fq2.1 68 3 (by simp)
  have wf2 := hp2.2.2.2.1
  have o1 := hp2.2.2.2.2 1 (by decide) (by decide)
  have o2 := hp2.2.2.2.2 2 (by decide) (by decide)
  refine w_popI ?_
  refine w_goto ?_
  obtain ⟨zz, nm⟩ := br_29 fd1 fd2 rm hp1 hp2
  have n1 := RG.sq g1 f1 fd2 h1 (by decide) (by simp [gX]) (by simp [gX]) (by omega) (fun i hi => hp2.2.2.2.2 i (by omega) (by omega))
  have k9 := frI fd2 h2 0 9 (by decide)
  have k8 := f1.1 0 9 (by simp)
  have n2 : ¬ tI t2 0 9 = 0 → RG t2 t2 12 13 14 15 19 70 := fun hk => RG.st (g2 (fun q => hk (by rw [k9, k8, q]))) f1 fd2 h1 (by decide) (by simp [gX]) (by simp [gX]) (fd2.2.1 70 (by simp))
  have ns := RS.st rs f1 fd2 h1 h2 (by decide) (by decide)
  have nl := RW.st rl f1 fd2 h1 h2 (by decide) (by decide)
  have y1 := frI fd2 h2 1 13 (by decide)
  have y2 := frI fd2 h2 12 13 (by decide)
  have l1 := f1.1 1 13 (by simp)
  have l2 := f1.1 12 13 (by simp)
  have d1 : 0 ≤ tI t2 1 13 ∧ tI t2 1 13 ≤ 9999 := by omega
  have d2 : 0 ≤ tI t2 12 13 ∧ tI t2 12 13 ≤ 9999 := by omega
  exact key t2 ⟨ok2, wf2, wg2, d1, d2, sl2, n1, n2, ns, nl, nm, by omega⟩
set_option maxRecDepth 100000 in
theorem lw_30 {xs : List Int32} {i : Int} {N m : Nat} {t : TS} {P : Option Value → ab_W → Prop} (hi : 0 ≤ i ∧ i + 6 ≤ xs.length) (hx : xs.length ≤ 3072) (v : INV m t) (hm : m ≤ 600) (key : ∀ t', INV (m + 1) t' → Rn (bL_law xs (EX FU 100)) N 46 [some (.ref 1000001), some (.ref 0), some (.ref 68), some (.int (jI i))] [] (mk t') P) : Rn (bL_law xs (EX FU 100)) (N + 1) 30 [some (.ref 1000001), some (.ref 0), some (.ref 68), some (.int (jI i))] [] (mk t) P := by
  obtain ⟨ok, wf, wg, c1, c2, sl, g1, g2, rs, rl, rm, dl⟩ := v
  have s12 := ok.f fe_1_10
  have s13 := ok.f fe_12_10
  have i1 := g1.1.1
  have i3 := g1.1.2.2.1
  have x1 := xz_jr xs (i + 1)
  have x2 := xz_jr xs (i + 2)
  refine w_step rfl ?_
  refine w_aload rfl ?_
  refine w_aload rfl ?_
  refine w_iload rfl ?_
  refine w_push kc_1 ?_
  refine w_add ?_
  refine w_xs (j := 1) (by omega) hx ?_
  refine w_aload rfl ?_
  refine w_iload rfl ?_
  refine w_push kc_2 ?_
  refine w_add ?_
  refine w_xs (j := 1) (by omega) hx ?_
  refine w_callV2I (oj_0 _).choose_spec rfl (c_X8_textTold (d := 97) ok (by omega) (by omega) (by omega) (by omega)) ?_
  rintro z1 t1 ⟨tt1, hp1⟩
  have ok1 : OK t1 := tt1 ▸ ok
  have fd1 : FrD [] t t1 := tt1 ▸ FrD.rf t
  have hl1 : (tD t1).length = (tD t).length := by rw [tt1]
  have f1 := fd1
  have h1 : ∀ p ∈ ([] : List (Nat × Nat)), p.1 < 68 := by simp
  have wf1 := wf.sm (grA f1 h1 69 (by decide))
  have wg1 := wg.sm (grA f1 h1 70 (by decide))
  have sl1 := sl_sm sl (grA f1 h1 86 (by decide)) (grA f1 h1 87 (by decide))
  have k69 := grA f1 h1 69 (by decide)
  have k1 := k69 1
  have k2 := k69 2
  refine w_popI ?_
  refine w_aload rfl ?_
  refine w_aload rfl ?_
  refine w_iload rfl ?_
  refine w_push kc_1 ?_
  refine w_add ?_
  refine w_xs (j := 1) (by omega) hx ?_
  refine w_aload rfl ?_
  refine w_iload rfl ?_
  refine w_push kc_2 ?_
  refine w_add ?_
  refine w_xs (j := 1) (by omega) hx ?_
  refine w_callV2I (oj_68 _).choose_spec rfl (c_X9_textTold (d := 98) ok1 (by omega) (by omega) (by omega) (by omega)) ?_
  rintro z2 t2 ⟨tt2, hp2⟩
  have ok2 : OK t2 := tt2 ▸ ok1
  have fd2 : FrD [] t1 t2 := tt2 ▸ FrD.rf t1
  have hl2 : (tD t2).length = (tD t1).length := by rw [tt2]
  have h2 : ∀ p ∈ ([] : List (Nat × Nat)), 68 ≤ p.1 := by simp
  have wf2 := wf1.sm (fd2.2.1 69 (by simp))
  have wg2 := wg1.sm (fd2.2.1 70 (by simp))
  have sl2 := sl_sm sl1 (fd2.2.1 86 (by simp)) (fd2.2.1 87 (by simp))
  refine w_popI ?_
  refine w_goto ?_
  have n1 := RG.st g1 f1 fd2 h1 (by decide) (by simp [gX]) (by simp [gX]) (fd2.2.1 69 (by simp))
  have k9 := frI fd2 h2 0 9 (by decide)
  have k8 := f1.1 0 9 (by simp)
  have n2 : ¬ tI t2 0 9 = 0 → RG t2 t2 12 13 14 15 19 70 := fun hk => RG.st (g2 (fun q => hk (by rw [k9, k8, q]))) f1 fd2 h1 (by decide) (by simp [gX]) (by simp [gX]) (fd2.2.1 70 (by simp))
  have ns := RS.st rs f1 fd2 h1 h2 (by simp) (by simp)
  have nl := RW.st rl f1 fd2 h1 h2 (by simp) (by simp)
  have nm := RM.st rm f1 fd2 h1 h2 (by simp [mX]) (by simp [mY])
  have y1 := frI fd2 h2 1 13 (by decide)
  have y2 := frI fd2 h2 12 13 (by decide)
  have l1 := f1.1 1 13 (by simp)
  have l2 := f1.1 12 13 (by simp)
  have d1 : 0 ≤ tI t2 1 13 ∧ tI t2 1 13 ≤ 9999 := by omega
  have d2 : 0 ≤ tI t2 12 13 ∧ tI t2 12 13 ≤ 9999 := by omega
  exact key t2 ⟨ok2, wf2, wg2, d1, d2, sl2, n1, n2, ns, nl, nm, by omega⟩
set_option maxRecDepth 100000 in
theorem lw_31 {xs : List Int32} {i : Int} {N m : Nat} {t : TS} {P : Option Value → ab_W → Prop} (hi : 0 ≤ i ∧ i + 6 ≤ xs.length) (hx : xs.length ≤ 3072) (v : INV m t) (hm : m ≤ 600) (key : ∀ t', INV (m + 1) t' → Rn (bL_law xs (EX FU 100)) N 46 [some (.ref 1000001), some (.ref 0), some (.ref 68), some (.int (jI i))] [] (mk t') P) : Rn (bL_law xs (EX FU 100)) (N + 1) 31 [some (.ref 1000001), some (.ref 0), some (.ref 68), some (.int (jI i))] [] (mk t) P := by
  obtain ⟨ok, wf, wg, c1, c2, sl, g1, g2, rs, rl, rm, dl⟩ := v
  have s12 := ok.f fe_1_10
  have s13 := ok.f fe_12_10
  have i1 := g1.1.1
  have i3 := g1.1.2.2.1
  have x1 := xz_jr xs (i + 1)
  refine w_step rfl ?_
  refine w_aload rfl ?_
  refine w_aload rfl ?_
  refine w_iload rfl ?_
  refine w_push kc_1 ?_
  refine w_add ?_
  refine w_xs (j := 1) (by omega) hx ?_
  refine w_callV1I (oj_0 _).choose_spec rfl (c_X8_why (d := 98) ok (by omega) (by omega)) ?_
  rintro z1 t1 ⟨tt1, hp1⟩
  have ok1 : OK t1 := tt1 ▸ ok
  have fd1 : FrD [] t t1 := tt1 ▸ FrD.rf t
  have hl1 : (tD t1).length = (tD t).length := by rw [tt1]
  have f1 := fd1
  have h1 : ∀ p ∈ ([] : List (Nat × Nat)), p.1 < 68 := by simp
  have wf1 := wf.sm (grA f1 h1 69 (by decide))
  have wg1 := wg.sm (grA f1 h1 70 (by decide))
  have sl1 := sl_sm sl (grA f1 h1 86 (by decide)) (grA f1 h1 87 (by decide))
  have k69 := grA f1 h1 69 (by decide)
  have k1 := k69 1
  have k2 := k69 2
  refine w_popI ?_
  refine w_aload rfl ?_
  refine w_aload rfl ?_
  refine w_iload rfl ?_
  refine w_push kc_1 ?_
  refine w_add ?_
  refine w_xs (j := 1) (by omega) hx ?_
  refine w_callV1I (oj_68 _).choose_spec rfl (c_X9_why (d := 98) ok1 (by omega) (by omega)) ?_
  rintro z2 t2 ⟨tt2, hp2⟩
  have ok2 : OK t2 := tt2 ▸ ok1
  have fd2 : FrD [] t1 t2 := tt2 ▸ FrD.rf t1
  have hl2 : (tD t2).length = (tD t1).length := by rw [tt2]
  have h2 : ∀ p ∈ ([] : List (Nat × Nat)), 68 ≤ p.1 := by simp
  have wf2 := wf1.sm (fd2.2.1 69 (by simp))
  have wg2 := wg1.sm (fd2.2.1 70 (by simp))
  have sl2 := sl_sm sl1 (fd2.2.1 86 (by simp)) (fd2.2.1 87 (by simp))
  refine w_popI ?_
  refine w_goto ?_
  have n1 := RG.st g1 f1 fd2 h1 (by decide) (by simp [gX]) (by simp [gX]) (fd2.2.1 69 (by simp))
  have k9 := frI fd2 h2 0 9 (by decide)
  have k8 := f1.1 0 9 (by simp)
  have n2 : ¬ tI t2 0 9 = 0 → RG t2 t2 12 13 14 15 19 70 := fun hk => RG.st (g2 (fun q => hk (by rw [k9, k8, q]))) f1 fd2 h1 (by decide) (by simp [gX]) (by simp [gX]) (fd2.2.1 70 (by simp))
  have ns := RS.st rs f1 fd2 h1 h2 (by simp) (by simp)
  have nl := RW.st rl f1 fd2 h1 h2 (by simp) (by simp)
  have nm := RM.st rm f1 fd2 h1 h2 (by simp [mX]) (by simp [mY])
  have y1 := frI fd2 h2 1 13 (by decide)
  have y2 := frI fd2 h2 12 13 (by decide)
  have l1 := f1.1 1 13 (by simp)
  have l2 := f1.1 12 13 (by simp)
  have d1 : 0 ≤ tI t2 1 13 ∧ tI t2 1 13 ≤ 9999 := by omega
  have d2 : 0 ≤ tI t2 12 13 ∧ tI t2 12 13 ≤ 9999 := by omega
  exact key t2 ⟨ok2, wf2, wg2, d1, d2, sl2, n1, n2, ns, nl, nm, by omega⟩
set_option maxRecDepth 100000 in
theorem lw_32 {xs : List Int32} {i : Int} {N m : Nat} {t : TS} {P : Option Value → ab_W → Prop} (hi : 0 ≤ i ∧ i + 6 ≤ xs.length) (hx : xs.length ≤ 3072) (v : INV m t) (hm : m ≤ 600) (key : ∀ t', INV (m + 1) t' → Rn (bL_law xs (EX FU 100)) N 46 [some (.ref 1000001), some (.ref 0), some (.ref 68), some (.int (jI i))] [] (mk t') P) : Rn (bL_law xs (EX FU 100)) (N + 1) 32 [some (.ref 1000001), some (.ref 0), some (.ref 68), some (.int (jI i))] [] (mk t) P := by
  obtain ⟨ok, wf, wg, c1, c2, sl, g1, g2, rs, rl, rm, dl⟩ := v
  have s12 := ok.f fe_1_10
  have s13 := ok.f fe_12_10
  have i1 := g1.1.1
  have i3 := g1.1.2.2.1
  have x1 := xz_jr xs (i + 1)
  have x2 := xz_jr xs (i + 2)
  have x3 := xz_jr xs (i + 3)
  refine w_step rfl ?_
  refine w_aload rfl ?_
  refine w_aload rfl ?_
  refine w_iload rfl ?_
  refine w_push kc_1 ?_
  refine w_add ?_
  refine w_xs (j := 1) (by omega) hx ?_
  refine w_aload rfl ?_
  refine w_iload rfl ?_
  refine w_push kc_2 ?_
  refine w_add ?_
  refine w_xs (j := 1) (by omega) hx ?_
  refine w_aload rfl ?_
  refine w_iload rfl ?_
  refine w_push kc_3 ?_
  refine w_add ?_
  refine w_xs (j := 1) (by omega) hx ?_
  refine w_callV3I (oj_0 _).choose_spec rfl (c_X8_sheet (d := 97) ok (by omega) (by omega) (by omega) (by omega) (by omega) (by omega)) ?_
  rintro z1 t1 ⟨ok1, fq1, hp1⟩
  have hl1 := fq1.len
  have fd1 := fq1.toD
  have hb : t1 = t ∨ (0 ≤ (xz xs (i + 1)) ∧ (xz xs (i + 1)) ≤ 3) := by
    rcases hp1 with h | h | h | h | h <;> first | exact Or.inr ⟨h.1.1, h.1.2⟩ | exact Or.inr (by omega) | exact Or.inl h.2.2 | exact Or.inl h.2.2.2
  obtain ⟨S1, f1, hs⟩ : ∃ S1 : List (Nat × Nat), FrD S1 t t1 ∧ ∀ p ∈ S1, 45 ≤ p.1 ∧ p.1 < 53 := by
    rcases hb with hb | hb
    · exact ⟨[], by rw [hb]; exact FrD.rf t, by simp⟩
    · exact ⟨_, fd1, by simp; omega⟩
  have h1 : ∀ p ∈ S1, p.1 < 68 := fun p q => by have := hs p q; omega
  have h45 : ∀ p ∈ S1, 45 ≤ p.1 := fun p q => by have := hs p q; omega
  have wf1 := wf.sm (grA f1 h1 69 (by decide))
  have wg1 := wg.sm (grA f1 h1 70 (by decide))
  have sl1 := sl_sm sl (grA f1 h1 86 (by decide)) (grA f1 h1 87 (by decide))
  have k69 := grA f1 h1 69 (by decide)
  have k1 := k69 1
  have k2 := k69 2
  refine w_popI ?_
  refine w_aload rfl ?_
  refine w_aload rfl ?_
  refine w_iload rfl ?_
  refine w_push kc_1 ?_
  refine w_add ?_
  refine w_xs (j := 1) (by omega) hx ?_
  refine w_aload rfl ?_
  refine w_iload rfl ?_
  refine w_push kc_2 ?_
  refine w_add ?_
  refine w_xs (j := 1) (by omega) hx ?_
  refine w_aload rfl ?_
  refine w_iload rfl ?_
  refine w_push kc_3 ?_
  refine w_add ?_
  refine w_xs (j := 1) (by omega) hx ?_
  refine w_callV3I (oj_68 _).choose_spec rfl (c_X9_sheet (d := 97) ok1 (by omega) (by omega) (by omega) (by omega) (by omega) (by omega)) ?_
  rintro z2 t2 ⟨ok2, fq2, hp2⟩
  have hl2 := fq2.len
  have fd2 := fq2.toD
  have h2 : ∀ p ∈ [(83, 100), (84, 100), (85, 100)], 68 ≤ p.1 := by decide
  have wf2 := wf1.sm (fd2.2.1 69 (by simp))
  have wg2 := wg1.sm (fd2.2.1 70 (by simp))
  have sl2 := sl_sm sl1 (fd2.2.1 86 (by simp)) (fd2.2.1 87 (by simp))
  refine w_popI ?_
  refine w_goto ?_
  obtain ⟨zz, ns⟩ := br_32 fd1 fd2 rs (grA f1 h1 83 (by decide)) (grA f1 h1 84 (by decide)) (grA f1 h1 85 (by decide)) hp1 hp2
  have n1 := RG.st g1 f1 fd2 h1 (by decide) (gX_hi h45 (by decide)) (by simp [gX]) (fd2.2.1 69 (by simp))
  have k9 := frI fd2 h2 0 9 (by decide)
  have k8 := f1.1 0 9 (fun q => by have := hs _ q; simp only at this; omega)
  have n2 : ¬ tI t2 0 9 = 0 → RG t2 t2 12 13 14 15 19 70 := fun hk => RG.st (g2 (fun q => hk (by rw [k9, k8, q]))) f1 fd2 h1 (by decide) (gX_hi h45 (by decide)) (by simp [gX]) (fd2.2.1 70 (by simp))
  have nl := RW.st rl f1 fd2 h1 h2 (fun p q => by have := hs p q; omega) (by decide)
  have nm := RM.st rm f1 fd2 h1 h2 (mX_hi h45) (by simp [mY])
  have y1 := frI fd2 h2 1 13 (by decide)
  have y2 := frI fd2 h2 12 13 (by decide)
  have l1 := f1.1 1 13 (fun q => by have := hs _ q; simp only at this; omega)
  have l2 := f1.1 12 13 (fun q => by have := hs _ q; simp only at this; omega)
  have d1 : 0 ≤ tI t2 1 13 ∧ tI t2 1 13 ≤ 9999 := by omega
  have d2 : 0 ≤ tI t2 12 13 ∧ tI t2 12 13 ≤ 9999 := by omega
  exact key t2 ⟨ok2, wf2, wg2, d1, d2, sl2, n1, n2, ns, nl, nm, by omega⟩
set_option maxRecDepth 100000 in
theorem lw_33 {xs : List Int32} {i : Int} {N m : Nat} {t : TS} {P : Option Value → ab_W → Prop} (hi : 0 ≤ i ∧ i + 6 ≤ xs.length) (hx : xs.length ≤ 3072) (v : INV m t) (hm : m ≤ 600) (key : ∀ t', INV (m + 1) t' → Rn (bL_law xs (EX FU 100)) N 46 [some (.ref 1000001), some (.ref 0), some (.ref 68), some (.int (jI i))] [] (mk t') P) : Rn (bL_law xs (EX FU 100)) (N + 1) 33 [some (.ref 1000001), some (.ref 0), some (.ref 68), some (.int (jI i))] [] (mk t) P := by
  obtain ⟨ok, wf, wg, c1, c2, sl, g1, g2, rs, rl, rm, dl⟩ := v
  have s12 := ok.f fe_1_10
  have s13 := ok.f fe_12_10
  have i1 := g1.1.1
  have i3 := g1.1.2.2.1
  have x1 := xz_jr xs (i + 1)
  have x2 := xz_jr xs (i + 2)
  have x3 := xz_jr xs (i + 3)
  refine w_step rfl ?_
  refine w_aload rfl ?_
  refine w_aload rfl ?_
  refine w_iload rfl ?_
  refine w_push kc_1 ?_
  refine w_add ?_
  refine w_xs (j := 1) (by omega) hx ?_
  refine w_aload rfl ?_
  refine w_iload rfl ?_
  refine w_push kc_2 ?_
  refine w_add ?_
  refine w_xs (j := 1) (by omega) hx ?_
  refine w_aload rfl ?_
  refine w_iload rfl ?_
  refine w_push kc_3 ?_
  refine w_add ?_
  refine w_xs (j := 1) (by omega) hx ?_
  refine w_callV3I (oj_0 _).choose_spec rfl (c_X8_mark (d := 97) ok (by omega) (by omega) (by omega) (by omega) (by omega) (by omega)) ?_
  rintro z1 t1 ⟨ok1, fq1, hp1⟩
  have hl1 := fq1.len
  have fd1 := fq1.toD
  have hb : t1 = t ∨ (0 ≤ (xz xs (i + 1)) ∧ (xz xs (i + 1)) ≤ 3) := by
    rcases hp1 with h | h | h | h | h | h | h <;> first | exact Or.inr ⟨h.1.1, h.1.2⟩ | exact Or.inr (by omega) | exact Or.inl h.2.2 | exact Or.inl h.2.2.2
  obtain ⟨S1, f1, hs⟩ : ∃ S1 : List (Nat × Nat), FrD S1 t t1 ∧ ∀ p ∈ S1, 45 ≤ p.1 ∧ p.1 < 53 := by
    rcases hb with hb | hb
    · exact ⟨[], by rw [hb]; exact FrD.rf t, by simp⟩
    · exact ⟨_, fd1, by simp; omega⟩
  have h1 : ∀ p ∈ S1, p.1 < 68 := fun p q => by have := hs p q; omega
  have h45 : ∀ p ∈ S1, 45 ≤ p.1 := fun p q => by have := hs p q; omega
  have wf1 := wf.sm (grA f1 h1 69 (by decide))
  have wg1 := wg.sm (grA f1 h1 70 (by decide))
  have sl1 := sl_sm sl (grA f1 h1 86 (by decide)) (grA f1 h1 87 (by decide))
  have k69 := grA f1 h1 69 (by decide)
  have k1 := k69 1
  have k2 := k69 2
  refine w_popI ?_
  refine w_aload rfl ?_
  refine w_aload rfl ?_
  refine w_iload rfl ?_
  refine w_push kc_1 ?_
  refine w_add ?_
  refine w_xs (j := 1) (by omega) hx ?_
  refine w_aload rfl ?_
  refine w_iload rfl ?_
  refine w_push kc_2 ?_
  refine w_add ?_
  refine w_xs (j := 1) (by omega) hx ?_
  refine w_aload rfl ?_
  refine w_iload rfl ?_
  refine w_push kc_3 ?_
  refine w_add ?_
  refine w_xs (j := 1) (by omega) hx ?_
  refine w_callV3I (oj_68 _).choose_spec rfl (c_X9_mark (d := 97) ok1 (by omega) (by omega) (by omega) (by omega) (by omega) (by omega)) ?_
  rintro z2 t2 ⟨ok2, fq2, hp2⟩
  have hl2 := fq2.len
  have fd2 := fq2.toD
  have h2 : ∀ p ∈ [(85, 100)], 68 ≤ p.1 := by decide
  have wf2 := wf1.sm (fd2.2.1 69 (by simp))
  have wg2 := wg1.sm (fd2.2.1 70 (by simp))
  have sl2 := sl_sm sl1 (fd2.2.1 86 (by simp)) (fd2.2.1 87 (by simp))
  refine w_popI ?_
  refine w_goto ?_
  obtain ⟨zz, ns⟩ := br_33 fd1 fd2 rs ok (grA f1 h1 83 (by decide)) (grA f1 h1 84 (by decide)) (grA f1 h1 85 (by decide)) hp1 hp2
  have n1 := RG.st g1 f1 fd2 h1 (by decide) (gX_hi h45 (by decide)) (by simp [gX]) (fd2.2.1 69 (by simp))
  have k9 := frI fd2 h2 0 9 (by decide)
  have k8 := f1.1 0 9 (fun q => by have := hs _ q; simp only at this; omega)
  have n2 : ¬ tI t2 0 9 = 0 → RG t2 t2 12 13 14 15 19 70 := fun hk => RG.st (g2 (fun q => hk (by rw [k9, k8, q]))) f1 fd2 h1 (by decide) (gX_hi h45 (by decide)) (by simp [gX]) (fd2.2.1 70 (by simp))
  have nl := RW.st rl f1 fd2 h1 h2 (fun p q => by have := hs p q; omega) (by decide)
  have nm := RM.st rm f1 fd2 h1 h2 (mX_hi h45) (by simp [mY])
  have y1 := frI fd2 h2 1 13 (by decide)
  have y2 := frI fd2 h2 12 13 (by decide)
  have l1 := f1.1 1 13 (fun q => by have := hs _ q; simp only at this; omega)
  have l2 := f1.1 12 13 (fun q => by have := hs _ q; simp only at this; omega)
  have d1 : 0 ≤ tI t2 1 13 ∧ tI t2 1 13 ≤ 9999 := by omega
  have d2 : 0 ≤ tI t2 12 13 ∧ tI t2 12 13 ≤ 9999 := by omega
  exact key t2 ⟨ok2, wf2, wg2, d1, d2, sl2, n1, n2, ns, nl, nm, by omega⟩
set_option maxRecDepth 100000 in
theorem lw_34 {xs : List Int32} {i : Int} {N m : Nat} {t : TS} {P : Option Value → ab_W → Prop} (hi : 0 ≤ i ∧ i + 6 ≤ xs.length) (hx : xs.length ≤ 3072) (v : INV m t) (hm : m ≤ 600) (key : ∀ t', INV (m + 1) t' → Rn (bL_law xs (EX FU 100)) N 46 [some (.ref 1000001), some (.ref 0), some (.ref 68), some (.int (jI i))] [] (mk t') P) : Rn (bL_law xs (EX FU 100)) (N + 1) 34 [some (.ref 1000001), some (.ref 0), some (.ref 68), some (.int (jI i))] [] (mk t) P := by
  obtain ⟨ok, wf, wg, c1, c2, sl, g1, g2, rs, rl, rm, dl⟩ := v
  have s12 := ok.f fe_1_10
  have s13 := ok.f fe_12_10
  have i1 := g1.1.1
  have i3 := g1.1.2.2.1
  have x1 := xz_jr xs (i + 1)
  refine w_step rfl ?_
  refine w_aload rfl ?_
  refine w_aload rfl ?_
  refine w_iload rfl ?_
  refine w_push kc_1 ?_
  refine w_add ?_
  refine w_xs (j := 1) (by omega) hx ?_
  refine w_callV1I (oj_0 _).choose_spec rfl (c_X8_pour (d := 97) ok (by omega) (by omega)) ?_
  rintro z1 t1 ⟨ok1, fq1, hp1⟩
  have hl1 := fq1.len
  have fd1 := fq1.toD
  have f1 := fd1
  have h1 : ∀ p ∈ [(8, 100)], p.1 < 68 := by decide
  have wf1 := wf.sm (grA f1 h1 69 (by decide))
  have wg1 := wg.sm (grA f1 h1 70 (by decide))
  have sl1 := sl_sm sl (grA f1 h1 86 (by decide)) (grA f1 h1 87 (by decide))
  have k69 := grA f1 h1 69 (by decide)
  have k1 := k69 1
  have k2 := k69 2
  refine w_aload rfl ?_
  refine w_aload rfl ?_
  refine w_iload rfl ?_
  refine w_push kc_1 ?_
  refine w_add ?_
  refine w_xs (j := 1) (by omega) hx ?_
  refine w_callV1I (oj_68 _).choose_spec rfl (c_X9_pour (d := 97) ok1 (by omega) (by omega)) ?_
  rintro z2 t2 ⟨ok2, fq2, hp2⟩
  have hl2 := fq2.len
  have fd2 := fq2.toD
  have h2 : ∀ p ∈ [(69, 100)], 68 ≤ p.1 := by decide
  have wg2 := wg1.sm (fq2.2.1 70 (by simp))
  have sl2 := sl_sm sl1 (fq2.2.1 86 (by simp)) (fq2.2.1 87 (by simp))
  have o3 := fq2.2.1 70 (by simp) 1
  have o4 := fq2.2.1 70 (by simp) 2
  have o5 := fq2.1 68 3 (by simp)
  have h69 : ∀ j, (j < 5 ∨ 29 ≤ j) → tA t2 69 j = tA t1 69 j := by
    intro j hj
    rcases hp2 with h | h | h
    · rw [h.2.2]
    · rw [h.2.2.2]
    · exact h.2.2.2.2 j hj
  have wf2 := wf1.same (fun j hj => h69 j (by omega))
  have o1 := h69 1 (by omega)
  have o2 := h69 2 (by omega)
  obtain ⟨zz, n1⟩ := br_34 fd1 fd2 g1 rs ok hp1 hp2
  have k9 := frI fd2 h2 0 9 (by decide)
  have k8 := f1.1 0 9 (by simp)
  have n2 : ¬ tI t2 0 9 = 0 → RG t2 t2 12 13 14 15 19 70 := fun hk => RG.st (g2 (fun q => hk (by rw [k9, k8, q]))) f1 fd2 h1 (by decide) (by simp [gX]) (by simp [gX]) (fd2.2.1 70 (by simp))
  have ns := RS.st rs f1 fd2 h1 h2 (by decide) (by decide)
  have nl := RW.st rl f1 fd2 h1 h2 (by decide) (by decide)
  have nm := RM.st rm f1 fd2 h1 h2 (by simp [mX]) (by simp [mY])
  have y1 := frI fd2 h2 1 13 (by decide)
  have y2 := frI fd2 h2 12 13 (by decide)
  have l1 := f1.1 1 13 (by simp)
  have l2 := f1.1 12 13 (by simp)
  have d1 : 0 ≤ tI t2 1 13 ∧ tI t2 1 13 ≤ 9999 := by omega
  have d2 : 0 ≤ tI t2 12 13 ∧ tI t2 12 13 ≤ 9999 := by omega
  refine w_ceqE zz ?_
  exact key t2 ⟨ok2, wf2, wg2, d1, d2, sl2, n1, n2, ns, nl, nm, by omega⟩
set_option maxRecDepth 100000 in
theorem lw_35 {xs : List Int32} {i : Int} {N m : Nat} {t : TS} {P : Option Value → ab_W → Prop} (hi : 0 ≤ i ∧ i + 6 ≤ xs.length) (hx : xs.length ≤ 3072) (v : INV m t) (hm : m ≤ 600) (key : ∀ t', INV (m + 1) t' → Rn (bL_law xs (EX FU 100)) N 46 [some (.ref 1000001), some (.ref 0), some (.ref 68), some (.int (jI i))] [] (mk t') P) : Rn (bL_law xs (EX FU 100)) (N + 1) 35 [some (.ref 1000001), some (.ref 0), some (.ref 68), some (.int (jI i))] [] (mk t) P := by
  obtain ⟨ok, wf, wg, c1, c2, sl, g1, g2, rs, rl, rm, dl⟩ := v
  have s12 := ok.f fe_1_10
  have s13 := ok.f fe_12_10
  have i1 := g1.1.1
  have i3 := g1.1.2.2.1
  have x1 := xz_jr xs (i + 1)
  refine w_step rfl ?_
  refine w_aload rfl ?_
  refine w_aload rfl ?_
  refine w_iload rfl ?_
  refine w_push kc_1 ?_
  refine w_add ?_
  refine w_xs (j := 1) (by omega) hx ?_
  refine w_callV1I (oj_0 _).choose_spec rfl (c_X8_reads (d := 97) ok (by omega) (by omega)) ?_
  rintro z1 t1 ⟨tt1, hp1⟩
  have ok1 : OK t1 := tt1 ▸ ok
  have fd1 : FrD [] t t1 := tt1 ▸ FrD.rf t
  have hl1 : (tD t1).length = (tD t).length := by rw [tt1]
  have f1 := fd1
  have h1 : ∀ p ∈ ([] : List (Nat × Nat)), p.1 < 68 := by simp
  have wf1 := wf.sm (grA f1 h1 69 (by decide))
  have wg1 := wg.sm (grA f1 h1 70 (by decide))
  have sl1 := sl_sm sl (grA f1 h1 86 (by decide)) (grA f1 h1 87 (by decide))
  have k69 := grA f1 h1 69 (by decide)
  have k1 := k69 1
  have k2 := k69 2
  refine w_popI ?_
  refine w_aload rfl ?_
  refine w_aload rfl ?_
  refine w_iload rfl ?_
  refine w_push kc_1 ?_
  refine w_add ?_
  refine w_xs (j := 1) (by omega) hx ?_
  refine w_callV1I (oj_68 _).choose_spec rfl (c_X9_reads (d := 97) ok1 (by omega) (by omega)) ?_
  rintro z2 t2 ⟨tt2, hp2⟩
  have ok2 : OK t2 := tt2 ▸ ok1
  have fd2 : FrD [] t1 t2 := tt2 ▸ FrD.rf t1
  have hl2 : (tD t2).length = (tD t1).length := by rw [tt2]
  have h2 : ∀ p ∈ ([] : List (Nat × Nat)), 68 ≤ p.1 := by simp
  have wf2 := wf1.sm (fd2.2.1 69 (by simp))
  have wg2 := wg1.sm (fd2.2.1 70 (by simp))
  have sl2 := sl_sm sl1 (fd2.2.1 86 (by simp)) (fd2.2.1 87 (by simp))
  refine w_popI ?_
  refine w_goto ?_
  have n1 := RG.st g1 f1 fd2 h1 (by decide) (by simp [gX]) (by simp [gX]) (fd2.2.1 69 (by simp))
  have k9 := frI fd2 h2 0 9 (by decide)
  have k8 := f1.1 0 9 (by simp)
  have n2 : ¬ tI t2 0 9 = 0 → RG t2 t2 12 13 14 15 19 70 := fun hk => RG.st (g2 (fun q => hk (by rw [k9, k8, q]))) f1 fd2 h1 (by decide) (by simp [gX]) (by simp [gX]) (fd2.2.1 70 (by simp))
  have ns := RS.st rs f1 fd2 h1 h2 (by simp) (by simp)
  have nl := RW.st rl f1 fd2 h1 h2 (by simp) (by simp)
  have nm := RM.st rm f1 fd2 h1 h2 (by simp [mX]) (by simp [mY])
  have y1 := frI fd2 h2 1 13 (by decide)
  have y2 := frI fd2 h2 12 13 (by decide)
  have l1 := f1.1 1 13 (by simp)
  have l2 := f1.1 12 13 (by simp)
  have d1 : 0 ≤ tI t2 1 13 ∧ tI t2 1 13 ≤ 9999 := by omega
  have d2 : 0 ≤ tI t2 12 13 ∧ tI t2 12 13 ≤ 9999 := by omega
  exact key t2 ⟨ok2, wf2, wg2, d1, d2, sl2, n1, n2, ns, nl, nm, by omega⟩
set_option maxRecDepth 100000 in
theorem lw_36 {xs : List Int32} {i : Int} {N m : Nat} {t : TS} {P : Option Value → ab_W → Prop} (hi : 0 ≤ i ∧ i + 6 ≤ xs.length) (hx : xs.length ≤ 3072) (v : INV m t) (hm : m ≤ 600) (key : ∀ t', INV (m + 1) t' → Rn (bL_law xs (EX FU 100)) N 46 [some (.ref 1000001), some (.ref 0), some (.ref 68), some (.int (jI i))] [] (mk t') P) : Rn (bL_law xs (EX FU 100)) (N + 1) 36 [some (.ref 1000001), some (.ref 0), some (.ref 68), some (.int (jI i))] [] (mk t) P := by
  obtain ⟨ok, wf, wg, c1, c2, sl, g1, g2, rs, rl, rm, dl⟩ := v
  have s12 := ok.f fe_1_10
  have s13 := ok.f fe_12_10
  have i1 := g1.1.1
  have i3 := g1.1.2.2.1
  have x1 := xz_jr xs (i + 1)
  have x2 := xz_jr xs (i + 2)
  have x3 := xz_jr xs (i + 3)
  have x4 := xz_jr xs (i + 4)
  have x5 := xz_jr xs (i + 5)
  refine w_step rfl ?_
  refine w_aload rfl ?_
  refine w_aload rfl ?_
  refine w_iload rfl ?_
  refine w_push kc_1 ?_
  refine w_add ?_
  refine w_xs (j := 1) (by omega) hx ?_
  refine w_aload rfl ?_
  refine w_iload rfl ?_
  refine w_push kc_2 ?_
  refine w_add ?_
  refine w_xs (j := 1) (by omega) hx ?_
  refine w_aload rfl ?_
  refine w_iload rfl ?_
  refine w_push kc_3 ?_
  refine w_add ?_
  refine w_xs (j := 1) (by omega) hx ?_
  refine w_aload rfl ?_
  refine w_iload rfl ?_
  refine w_push kc_4 ?_
  refine w_add ?_
  refine w_xs (j := 1) (by omega) hx ?_
  refine w_aload rfl ?_
  refine w_iload rfl ?_
  refine w_push kc_5 ?_
  refine w_add ?_
  refine w_xs (j := 1) (by omega) hx ?_
  refine w_callV5I (oj_0 _).choose_spec rfl (c_X8_copy (d := 97) ok (by omega) (by omega) (by omega) (by omega) (by omega) (by omega) (by omega) (by omega) (by omega) (by omega)) ?_
  rintro z1 t1 ⟨ok1, fq1, hp1⟩
  have hl1 := fq1.len
  have fd1 := fq1.toD
  have hb : t1 = t ∨ (0 ≤ (xz xs (i + 3)) ∧ (xz xs (i + 3)) ≤ 3) := by
    rcases hp1 with h | h | h | h | h <;> first | exact Or.inr ⟨h.1.1, h.1.2⟩ | exact Or.inr (by omega) | exact Or.inl h.2.2 | exact Or.inl h.2.2.2
  obtain ⟨S1, f1, hs⟩ : ∃ S1 : List (Nat × Nat), FrD S1 t t1 ∧ ∀ p ∈ S1, 45 ≤ p.1 ∧ p.1 < 53 := by
    rcases hb with hb | hb
    · exact ⟨[], by rw [hb]; exact FrD.rf t, by simp⟩
    · exact ⟨_, fd1, by simp; omega⟩
  have h1 : ∀ p ∈ S1, p.1 < 68 := fun p q => by have := hs p q; omega
  have h45 : ∀ p ∈ S1, 45 ≤ p.1 := fun p q => by have := hs p q; omega
  have wf1 := wf.sm (grA f1 h1 69 (by decide))
  have wg1 := wg.sm (grA f1 h1 70 (by decide))
  have sl1 := sl_sm sl (grA f1 h1 86 (by decide)) (grA f1 h1 87 (by decide))
  have k69 := grA f1 h1 69 (by decide)
  have k1 := k69 1
  have k2 := k69 2
  refine w_popI ?_
  refine w_aload rfl ?_
  refine w_aload rfl ?_
  refine w_iload rfl ?_
  refine w_push kc_1 ?_
  refine w_add ?_
  refine w_xs (j := 1) (by omega) hx ?_
  refine w_aload rfl ?_
  refine w_iload rfl ?_
  refine w_push kc_2 ?_
  refine w_add ?_
  refine w_xs (j := 1) (by omega) hx ?_
  refine w_aload rfl ?_
  refine w_iload rfl ?_
  refine w_push kc_3 ?_
  refine w_add ?_
  refine w_xs (j := 1) (by omega) hx ?_
  refine w_aload rfl ?_
  refine w_iload rfl ?_
  refine w_push kc_4 ?_
  refine w_add ?_
  refine w_xs (j := 1) (by omega) hx ?_
  refine w_aload rfl ?_
  refine w_iload rfl ?_
  refine w_push kc_5 ?_
  refine w_add ?_
  refine w_xs (j := 1) (by omega) hx ?_
  refine w_callV5I (oj_68 _).choose_spec rfl (c_X9_copy (d := 97) ok1 (by omega) (by omega) (by omega) (by omega) (by omega) (by omega) (by omega) (by omega) (by omega) (by omega)) ?_
  rintro z2 t2 ⟨ok2, fq2, hp2⟩
  have hl2 := fq2.len
  have fd2 := fq2.toD
  have h2 : ∀ p ∈ [(90, 100), (85, 100)], 68 ≤ p.1 := by decide
  have wf2 := wf1.sm (fd2.2.1 69 (by simp))
  have wg2 := wg1.sm (fd2.2.1 70 (by simp))
  have sl2 := sl_sm sl1 (fd2.2.1 86 (by simp)) (fd2.2.1 87 (by simp))
  refine w_popI ?_
  refine w_goto ?_
  obtain ⟨zz, ns⟩ := br_36 fd1 fd2 rs ok (grA f1 h1 83 (by decide)) (grA f1 h1 84 (by decide)) (grA f1 h1 85 (by decide)) hp1 hp2
  have n1 := RG.st g1 f1 fd2 h1 (by decide) (gX_hi h45 (by decide)) (by simp [gX]) (fd2.2.1 69 (by simp))
  have k9 := frI fd2 h2 0 9 (by decide)
  have k8 := f1.1 0 9 (fun q => by have := hs _ q; simp only at this; omega)
  have n2 : ¬ tI t2 0 9 = 0 → RG t2 t2 12 13 14 15 19 70 := fun hk => RG.st (g2 (fun q => hk (by rw [k9, k8, q]))) f1 fd2 h1 (by decide) (gX_hi h45 (by decide)) (by simp [gX]) (fd2.2.1 70 (by simp))
  have nl := RW.st rl f1 fd2 h1 h2 (fun p q => by have := hs p q; omega) (by decide)
  have nm := RM.st rm f1 fd2 h1 h2 (mX_hi h45) (by simp [mY])
  have y1 := frI fd2 h2 1 13 (by decide)
  have y2 := frI fd2 h2 12 13 (by decide)
  have l1 := f1.1 1 13 (fun q => by have := hs _ q; simp only at this; omega)
  have l2 := f1.1 12 13 (fun q => by have := hs _ q; simp only at this; omega)
  have d1 : 0 ≤ tI t2 1 13 ∧ tI t2 1 13 ≤ 9999 := by omega
  have d2 : 0 ≤ tI t2 12 13 ∧ tI t2 12 13 ≤ 9999 := by omega
  exact key t2 ⟨ok2, wf2, wg2, d1, d2, sl2, n1, n2, ns, nl, nm, by omega⟩
set_option maxRecDepth 100000 in
theorem lw_37 {xs : List Int32} {i : Int} {N m : Nat} {t : TS} {P : Option Value → ab_W → Prop} (hi : 0 ≤ i ∧ i + 6 ≤ xs.length) (hx : xs.length ≤ 3072) (v : INV m t) (hm : m ≤ 600) (key : ∀ t', INV (m + 1) t' → Rn (bL_law xs (EX FU 100)) N 46 [some (.ref 1000001), some (.ref 0), some (.ref 68), some (.int (jI i))] [] (mk t') P) : Rn (bL_law xs (EX FU 100)) (N + 1) 37 [some (.ref 1000001), some (.ref 0), some (.ref 68), some (.int (jI i))] [] (mk t) P := by
  obtain ⟨ok, wf, wg, c1, c2, sl, g1, g2, rs, rl, rm, dl⟩ := v
  have s12 := ok.f fe_1_10
  have s13 := ok.f fe_12_10
  have i1 := g1.1.1
  have i3 := g1.1.2.2.1
  have x1 := xz_jr xs (i + 1)
  have x2 := xz_jr xs (i + 2)
  have x3 := xz_jr xs (i + 3)
  refine w_step rfl ?_
  refine w_aload rfl ?_
  refine w_aload rfl ?_
  refine w_iload rfl ?_
  refine w_push kc_1 ?_
  refine w_add ?_
  refine w_xs (j := 1) (by omega) hx ?_
  refine w_aload rfl ?_
  refine w_iload rfl ?_
  refine w_push kc_2 ?_
  refine w_add ?_
  refine w_xs (j := 1) (by omega) hx ?_
  refine w_aload rfl ?_
  refine w_iload rfl ?_
  refine w_push kc_3 ?_
  refine w_add ?_
  refine w_xs (j := 1) (by omega) hx ?_
  refine w_callV3I (oj_0 _).choose_spec rfl (c_X8_lay (d := 97) ok (by omega) (by omega) (by omega) (by omega) (by omega) (by omega)) ?_
  rintro z1 t1 ⟨ok1, fq1, hp1⟩
  have hl1 := fq1.len
  have fd1 := fq1.toD
  have hb : t1 = t ∨ (0 ≤ (xz xs (i + 1)) ∧ (xz xs (i + 1)) ≤ 4) := by
    rcases hp1 with h | h | h | h | h | h <;> first | exact Or.inr ⟨h.1.1, h.1.2⟩ | exact Or.inr (by omega) | exact Or.inl h.2.2 | exact Or.inl h.2.2.2
  obtain ⟨S1, f1, hs⟩ : ∃ S1 : List (Nat × Nat), FrD S1 t t1 ∧ ∀ p ∈ S1, 53 ≤ p.1 ∧ p.1 < 68 := by
    rcases hb with hb | hb
    · exact ⟨[], by rw [hb]; exact FrD.rf t, by simp⟩
    · exact ⟨_, fd1, by simp; omega⟩
  have h1 : ∀ p ∈ S1, p.1 < 68 := fun p q => by have := hs p q; omega
  have h45 : ∀ p ∈ S1, 45 ≤ p.1 := fun p q => by have := hs p q; omega
  have wf1 := wf.sm (grA f1 h1 69 (by decide))
  have wg1 := wg.sm (grA f1 h1 70 (by decide))
  have sl1 := sl_sm sl (grA f1 h1 86 (by decide)) (grA f1 h1 87 (by decide))
  have k69 := grA f1 h1 69 (by decide)
  have k1 := k69 1
  have k2 := k69 2
  refine w_popI ?_
  refine w_aload rfl ?_
  refine w_aload rfl ?_
  refine w_iload rfl ?_
  refine w_push kc_1 ?_
  refine w_add ?_
  refine w_xs (j := 1) (by omega) hx ?_
  refine w_aload rfl ?_
  refine w_iload rfl ?_
  refine w_push kc_2 ?_
  refine w_add ?_
  refine w_xs (j := 1) (by omega) hx ?_
  refine w_aload rfl ?_
  refine w_iload rfl ?_
  refine w_push kc_3 ?_
  refine w_add ?_
  refine w_xs (j := 1) (by omega) hx ?_
  refine w_callV3I (oj_68 _).choose_spec rfl (c_X9_lay (d := 97) ok1 (by omega) (by omega) (by omega) (by omega) (by omega) (by omega)) ?_
  rintro z2 t2 ⟨ok2, fq2, hp2⟩
  have hl2 := fq2.len
  have fd2 := fq2.toD
  have h2 : ∀ p ∈ [(86, 100), (87, 100), (88, 100), (89, 100)], 68 ≤ p.1 := by decide
  have wf2 := wf1.sm (fq2.2.1 69 (by simp))
  have wg2 := wg1.sm (fq2.2.1 70 (by simp))
  have o1 := fq2.2.1 69 (by simp) 1
  have o2 := fq2.2.1 69 (by simp) 2
  have o3 := fq2.2.1 70 (by simp) 1
  have o4 := fq2.2.1 70 (by simp) 2
  have o5 := fq2.1 68 3 (by simp)
  have sl2 : ∀ i : Nat, i < 5 → tA t2 86 i = 2 → 0 ≤ tA t2 87 i ∧ tA t2 87 i ≤ 24 := by
    intro j hj e
    rcases hp2 with h | h | h | h | h
    · rw [h.2.2] at e ⊢; exact sl1 j hj e
    · rw [h.2.2.2.2.2] at e ⊢; exact sl1 j hj e
    · rw [h.2.2.2.1] at e
      rw [h.2.2.2.2.1]
      have h2 := h.2.1
      by_cases q : j = (xz xs (i + 1)).toNat
      · rw [if_pos q] at e; omega
      · rw [if_neg q] at e ⊢; exact sl1 j hj e
    · rw [h.2.2.2.2.1] at e
      rw [h.2.2.2.2.2.1]
      have h2 := h.2.1
      by_cases q : j = (xz xs (i + 1)).toNat
      · rw [if_pos q] at e; omega
      · rw [if_neg q] at e ⊢; exact sl1 j hj e
    · rw [h.2.2.2.2.2.1] at e
      rw [h.2.2.2.2.2.2.1]
      by_cases q : j = (xz xs (i + 1)).toNat
      · rw [if_pos q]; exact ok1.a (ae_84 _)
      · rw [if_neg q] at e ⊢; exact sl1 j hj e
  refine w_popI ?_
  refine w_goto ?_
  obtain ⟨zz, nl⟩ := br_37 fd1 fd2 g1 rs rl (grA f1 h1 69 (by decide)) (grA f1 h1 83 (by decide)) (grA f1 h1 84 (by decide)) (grA f1 h1 85 (by decide)) (grA f1 h1 86 (by decide)) (grA f1 h1 87 (by decide)) (grA f1 h1 88 (by decide)) (grA f1 h1 89 (by decide)) hp1 hp2
  have n1 := RG.st g1 f1 fd2 h1 (by decide) (gX_hi h45 (by decide)) (by simp [gX]) (fd2.2.1 69 (by simp))
  have k9 := frI fd2 h2 0 9 (by decide)
  have k8 := f1.1 0 9 (fun q => by have := hs _ q; simp only at this; omega)
  have n2 : ¬ tI t2 0 9 = 0 → RG t2 t2 12 13 14 15 19 70 := fun hk => RG.st (g2 (fun q => hk (by rw [k9, k8, q]))) f1 fd2 h1 (by decide) (gX_hi h45 (by decide)) (by simp [gX]) (fd2.2.1 70 (by simp))
  have ns := RS.st rs f1 fd2 h1 h2 (fun p q => by have := hs p q; omega) (by decide)
  have nm := RM.st rm f1 fd2 h1 h2 (mX_hi h45) (by simp [mY])
  have y1 := frI fd2 h2 1 13 (by decide)
  have y2 := frI fd2 h2 12 13 (by decide)
  have l1 := f1.1 1 13 (fun q => by have := hs _ q; simp only at this; omega)
  have l2 := f1.1 12 13 (fun q => by have := hs _ q; simp only at this; omega)
  have d1 : 0 ≤ tI t2 1 13 ∧ tI t2 1 13 ≤ 9999 := by omega
  have d2 : 0 ≤ tI t2 12 13 ∧ tI t2 12 13 ≤ 9999 := by omega
  exact key t2 ⟨ok2, wf2, wg2, d1, d2, sl2, n1, n2, ns, nl, nm, by omega⟩
set_option maxRecDepth 100000 in
theorem lw_38 {xs : List Int32} {i : Int} {N m : Nat} {t : TS} {P : Option Value → ab_W → Prop} (hi : 0 ≤ i ∧ i + 6 ≤ xs.length) (hx : xs.length ≤ 3072) (v : INV m t) (hm : m ≤ 600) (key : ∀ t', INV (m + 1) t' → Rn (bL_law xs (EX FU 100)) N 46 [some (.ref 1000001), some (.ref 0), some (.ref 68), some (.int (jI i))] [] (mk t') P) : Rn (bL_law xs (EX FU 100)) (N + 1) 38 [some (.ref 1000001), some (.ref 0), some (.ref 68), some (.int (jI i))] [] (mk t) P := by
  obtain ⟨ok, wf, wg, c1, c2, sl, g1, g2, rs, rl, rm, dl⟩ := v
  have s12 := ok.f fe_1_10
  have s13 := ok.f fe_12_10
  have i1 := g1.1.1
  have i3 := g1.1.2.2.1
  have x1 := xz_jr xs (i + 1)
  have x2 := xz_jr xs (i + 2)
  refine w_step rfl ?_
  refine w_aload rfl ?_
  refine w_aload rfl ?_
  refine w_iload rfl ?_
  refine w_push kc_1 ?_
  refine w_add ?_
  refine w_xs (j := 1) (by omega) hx ?_
  refine w_aload rfl ?_
  refine w_iload rfl ?_
  refine w_push kc_2 ?_
  refine w_add ?_
  refine w_xs (j := 1) (by omega) hx ?_
  refine w_callV2I (oj_0 _).choose_spec rfl (c_X8_ask (d := 97) ok (by omega) (by omega) (by omega) (by omega)) ?_
  rintro z1 t1 ⟨tt1, hp1⟩
  have ok1 : OK t1 := tt1 ▸ ok
  have fd1 : FrD [] t t1 := tt1 ▸ FrD.rf t
  have hl1 : (tD t1).length = (tD t).length := by rw [tt1]
  have f1 := fd1
  have h1 : ∀ p ∈ ([] : List (Nat × Nat)), p.1 < 68 := by simp
  have wf1 := wf.sm (grA f1 h1 69 (by decide))
  have wg1 := wg.sm (grA f1 h1 70 (by decide))
  have sl1 := sl_sm sl (grA f1 h1 86 (by decide)) (grA f1 h1 87 (by decide))
  have k69 := grA f1 h1 69 (by decide)
  have k1 := k69 1
  have k2 := k69 2
  refine w_popI ?_
  refine w_aload rfl ?_
  refine w_aload rfl ?_
  refine w_iload rfl ?_
  refine w_push kc_1 ?_
  refine w_add ?_
  refine w_xs (j := 1) (by omega) hx ?_
  refine w_aload rfl ?_
  refine w_iload rfl ?_
  refine w_push kc_2 ?_
  refine w_add ?_
  refine w_xs (j := 1) (by omega) hx ?_
  refine w_callV2I (oj_68 _).choose_spec rfl (c_X9_ask (d := 97) ok1 (by omega) (by omega) (by omega) (by omega)) ?_
  rintro z2 t2 ⟨tt2, hp2⟩
  have ok2 : OK t2 := tt2 ▸ ok1
  have fd2 : FrD [] t1 t2 := tt2 ▸ FrD.rf t1
  have hl2 : (tD t2).length = (tD t1).length := by rw [tt2]
  have h2 : ∀ p ∈ ([] : List (Nat × Nat)), 68 ≤ p.1 := by simp
  have wf2 := wf1.sm (fd2.2.1 69 (by simp))
  have wg2 := wg1.sm (fd2.2.1 70 (by simp))
  have sl2 := sl_sm sl1 (fd2.2.1 86 (by simp)) (fd2.2.1 87 (by simp))
  refine w_popI ?_
  refine w_goto ?_
  have zz := br_38 fd1 fd2 rl hp1 hp2
  have n1 := RG.st g1 f1 fd2 h1 (by decide) (by simp [gX]) (by simp [gX]) (fd2.2.1 69 (by simp))
  have k9 := frI fd2 h2 0 9 (by decide)
  have k8 := f1.1 0 9 (by simp)
  have n2 : ¬ tI t2 0 9 = 0 → RG t2 t2 12 13 14 15 19 70 := fun hk => RG.st (g2 (fun q => hk (by rw [k9, k8, q]))) f1 fd2 h1 (by decide) (by simp [gX]) (by simp [gX]) (fd2.2.1 70 (by simp))
  have ns := RS.st rs f1 fd2 h1 h2 (by simp) (by simp)
  have nl := RW.st rl f1 fd2 h1 h2 (by simp) (by simp)
  have nm := RM.st rm f1 fd2 h1 h2 (by simp [mX]) (by simp [mY])
  have y1 := frI fd2 h2 1 13 (by decide)
  have y2 := frI fd2 h2 12 13 (by decide)
  have l1 := f1.1 1 13 (by simp)
  have l2 := f1.1 12 13 (by simp)
  have d1 : 0 ≤ tI t2 1 13 ∧ tI t2 1 13 ≤ 9999 := by omega
  have d2 : 0 ≤ tI t2 12 13 ∧ tI t2 12 13 ≤ 9999 := by omega
  exact key t2 ⟨ok2, wf2, wg2, d1, d2, sl2, n1, n2, ns, nl, nm, by omega⟩
set_option maxRecDepth 100000 in
theorem lw_39 {xs : List Int32} {i : Int} {N m : Nat} {t : TS} {P : Option Value → ab_W → Prop} (hi : 0 ≤ i ∧ i + 6 ≤ xs.length) (hx : xs.length ≤ 3072) (v : INV m t) (hm : m ≤ 600) (key : ∀ t', INV (m + 1) t' → Rn (bL_law xs (EX FU 100)) N 46 [some (.ref 1000001), some (.ref 0), some (.ref 68), some (.int (jI i))] [] (mk t') P) : Rn (bL_law xs (EX FU 100)) (N + 1) 39 [some (.ref 1000001), some (.ref 0), some (.ref 68), some (.int (jI i))] [] (mk t) P := by
  obtain ⟨ok, wf, wg, c1, c2, sl, g1, g2, rs, rl, rm, dl⟩ := v
  have s12 := ok.f fe_1_10
  have s13 := ok.f fe_12_10
  have i1 := g1.1.1
  have i3 := g1.1.2.2.1
  have x1 := xz_jr xs (i + 1)
  have x2 := xz_jr xs (i + 2)
  refine w_step rfl ?_
  refine w_aload rfl ?_
  refine w_aload rfl ?_
  refine w_iload rfl ?_
  refine w_push kc_1 ?_
  refine w_add ?_
  refine w_xs (j := 1) (by omega) hx ?_
  refine w_aload rfl ?_
  refine w_iload rfl ?_
  refine w_push kc_2 ?_
  refine w_add ?_
  refine w_xs (j := 1) (by omega) hx ?_
  refine w_callV2I (oj_0 _).choose_spec rfl (c_X8_item (d := 97) ok (by omega) (by omega) (by omega) (by omega)) ?_
  rintro z1 t1 ⟨tt1, hp1⟩
  have ok1 : OK t1 := tt1 ▸ ok
  have fd1 : FrD [] t t1 := tt1 ▸ FrD.rf t
  have hl1 : (tD t1).length = (tD t).length := by rw [tt1]
  have f1 := fd1
  have h1 : ∀ p ∈ ([] : List (Nat × Nat)), p.1 < 68 := by simp
  have wf1 := wf.sm (grA f1 h1 69 (by decide))
  have wg1 := wg.sm (grA f1 h1 70 (by decide))
  have sl1 := sl_sm sl (grA f1 h1 86 (by decide)) (grA f1 h1 87 (by decide))
  have k69 := grA f1 h1 69 (by decide)
  have k1 := k69 1
  have k2 := k69 2
  refine w_popI ?_
  refine w_aload rfl ?_
  refine w_aload rfl ?_
  refine w_iload rfl ?_
  refine w_push kc_1 ?_
  refine w_add ?_
  refine w_xs (j := 1) (by omega) hx ?_
  refine w_aload rfl ?_
  refine w_iload rfl ?_
  refine w_push kc_2 ?_
  refine w_add ?_
  refine w_xs (j := 1) (by omega) hx ?_
  refine w_callV2I (oj_68 _).choose_spec rfl (c_X9_item (d := 97) ok1 (by omega) (by omega) (by omega) (by omega) sl1) ?_
  rintro z2 t2 ⟨tt2, hp2⟩
  have ok2 : OK t2 := tt2 ▸ ok1
  have fd2 : FrD [] t1 t2 := tt2 ▸ FrD.rf t1
  have hl2 : (tD t2).length = (tD t1).length := by rw [tt2]
  have h2 : ∀ p ∈ ([] : List (Nat × Nat)), 68 ≤ p.1 := by simp
  have wf2 := wf1.sm (fd2.2.1 69 (by simp))
  have wg2 := wg1.sm (fd2.2.1 70 (by simp))
  have sl2 := sl_sm sl1 (fd2.2.1 86 (by simp)) (fd2.2.1 87 (by simp))
  refine w_popI ?_
  refine w_goto ?_
  have zz := br_39 fd1 fd2 rl sl hp1 hp2
  have n1 := RG.st g1 f1 fd2 h1 (by decide) (by simp [gX]) (by simp [gX]) (fd2.2.1 69 (by simp))
  have k9 := frI fd2 h2 0 9 (by decide)
  have k8 := f1.1 0 9 (by simp)
  have n2 : ¬ tI t2 0 9 = 0 → RG t2 t2 12 13 14 15 19 70 := fun hk => RG.st (g2 (fun q => hk (by rw [k9, k8, q]))) f1 fd2 h1 (by decide) (by simp [gX]) (by simp [gX]) (fd2.2.1 70 (by simp))
  have ns := RS.st rs f1 fd2 h1 h2 (by simp) (by simp)
  have nl := RW.st rl f1 fd2 h1 h2 (by simp) (by simp)
  have nm := RM.st rm f1 fd2 h1 h2 (by simp [mX]) (by simp [mY])
  have y1 := frI fd2 h2 1 13 (by decide)
  have y2 := frI fd2 h2 12 13 (by decide)
  have l1 := f1.1 1 13 (by simp)
  have l2 := f1.1 12 13 (by simp)
  have d1 : 0 ≤ tI t2 1 13 ∧ tI t2 1 13 ≤ 9999 := by omega
  have d2 : 0 ≤ tI t2 12 13 ∧ tI t2 12 13 ≤ 9999 := by omega
  exact key t2 ⟨ok2, wf2, wg2, d1, d2, sl2, n1, n2, ns, nl, nm, by omega⟩
set_option maxRecDepth 100000 in
theorem lw_40 {xs : List Int32} {i : Int} {N m : Nat} {t : TS} {P : Option Value → ab_W → Prop} (hi : 0 ≤ i ∧ i + 6 ≤ xs.length) (hx : xs.length ≤ 3072) (v : INV m t) (hm : m ≤ 600) (key : ∀ t', INV (m + 1) t' → Rn (bL_law xs (EX FU 100)) N 46 [some (.ref 1000001), some (.ref 0), some (.ref 68), some (.int (jI i))] [] (mk t') P) : Rn (bL_law xs (EX FU 100)) (N + 1) 40 [some (.ref 1000001), some (.ref 0), some (.ref 68), some (.int (jI i))] [] (mk t) P := by
  obtain ⟨ok, wf, wg, c1, c2, sl, g1, g2, rs, rl, rm, dl⟩ := v
  have s12 := ok.f fe_1_10
  have s13 := ok.f fe_12_10
  have i1 := g1.1.1
  have i3 := g1.1.2.2.1
  have x1 := xz_jr xs (i + 1)
  have x2 := xz_jr xs (i + 2)
  refine w_step rfl ?_
  refine w_aload rfl ?_
  refine w_aload rfl ?_
  refine w_iload rfl ?_
  refine w_push kc_1 ?_
  refine w_add ?_
  refine w_xs (j := 1) (by omega) hx ?_
  refine w_aload rfl ?_
  refine w_iload rfl ?_
  refine w_push kc_2 ?_
  refine w_add ?_
  refine w_xs (j := 1) (by omega) hx ?_
  refine w_callV2I (oj_0 _).choose_spec rfl (c_X8_rest (d := 97) ok (by omega) (by omega) (by omega) (by omega)) ?_
  rintro z1 t1 ⟨tt1, hp1⟩
  have ok1 : OK t1 := tt1 ▸ ok
  have fd1 : FrD [] t t1 := tt1 ▸ FrD.rf t
  have hl1 : (tD t1).length = (tD t).length := by rw [tt1]
  have f1 := fd1
  have h1 : ∀ p ∈ ([] : List (Nat × Nat)), p.1 < 68 := by simp
  have wf1 := wf.sm (grA f1 h1 69 (by decide))
  have wg1 := wg.sm (grA f1 h1 70 (by decide))
  have sl1 := sl_sm sl (grA f1 h1 86 (by decide)) (grA f1 h1 87 (by decide))
  have k69 := grA f1 h1 69 (by decide)
  have k1 := k69 1
  have k2 := k69 2
  refine w_popI ?_
  refine w_aload rfl ?_
  refine w_aload rfl ?_
  refine w_iload rfl ?_
  refine w_push kc_1 ?_
  refine w_add ?_
  refine w_xs (j := 1) (by omega) hx ?_
  refine w_aload rfl ?_
  refine w_iload rfl ?_
  refine w_push kc_2 ?_
  refine w_add ?_
  refine w_xs (j := 1) (by omega) hx ?_
  refine w_callV2I (oj_68 _).choose_spec rfl (c_X9_rest (d := 97) ok1 (by omega) (by omega) (by omega) (by omega)) ?_
  rintro z2 t2 ⟨tt2, hp2⟩
  have ok2 : OK t2 := tt2 ▸ ok1
  have fd2 : FrD [] t1 t2 := tt2 ▸ FrD.rf t1
  have hl2 : (tD t2).length = (tD t1).length := by rw [tt2]
  have h2 : ∀ p ∈ ([] : List (Nat × Nat)), 68 ≤ p.1 := by simp
  have wf2 := wf1.sm (fd2.2.1 69 (by simp))
  have wg2 := wg1.sm (fd2.2.1 70 (by simp))
  have sl2 := sl_sm sl1 (fd2.2.1 86 (by simp)) (fd2.2.1 87 (by simp))
  refine w_popI ?_
  refine w_goto ?_
  have zz := br_40 fd1 fd2 rl hp1 hp2
  have n1 := RG.st g1 f1 fd2 h1 (by decide) (by simp [gX]) (by simp [gX]) (fd2.2.1 69 (by simp))
  have k9 := frI fd2 h2 0 9 (by decide)
  have k8 := f1.1 0 9 (by simp)
  have n2 : ¬ tI t2 0 9 = 0 → RG t2 t2 12 13 14 15 19 70 := fun hk => RG.st (g2 (fun q => hk (by rw [k9, k8, q]))) f1 fd2 h1 (by decide) (by simp [gX]) (by simp [gX]) (fd2.2.1 70 (by simp))
  have ns := RS.st rs f1 fd2 h1 h2 (by simp) (by simp)
  have nl := RW.st rl f1 fd2 h1 h2 (by simp) (by simp)
  have nm := RM.st rm f1 fd2 h1 h2 (by simp [mX]) (by simp [mY])
  have y1 := frI fd2 h2 1 13 (by decide)
  have y2 := frI fd2 h2 12 13 (by decide)
  have l1 := f1.1 1 13 (by simp)
  have l2 := f1.1 12 13 (by simp)
  have d1 : 0 ≤ tI t2 1 13 ∧ tI t2 1 13 ≤ 9999 := by omega
  have d2 : 0 ≤ tI t2 12 13 ∧ tI t2 12 13 ≤ 9999 := by omega
  exact key t2 ⟨ok2, wf2, wg2, d1, d2, sl2, n1, n2, ns, nl, nm, by omega⟩
set_option maxRecDepth 100000 in
theorem lw_41 {xs : List Int32} {i : Int} {N m : Nat} {t : TS} {P : Option Value → ab_W → Prop} (hi : 0 ≤ i ∧ i + 6 ≤ xs.length) (hx : xs.length ≤ 3072) (v : INV m t) (hm : m ≤ 600) (key : ∀ t', INV (m + 1) t' → Rn (bL_law xs (EX FU 100)) N 46 [some (.ref 1000001), some (.ref 0), some (.ref 68), some (.int (jI i))] [] (mk t') P) : Rn (bL_law xs (EX FU 100)) (N + 1) 41 [some (.ref 1000001), some (.ref 0), some (.ref 68), some (.int (jI i))] [] (mk t) P := by
  obtain ⟨ok, wf, wg, c1, c2, sl, g1, g2, rs, rl, rm, dl⟩ := v
  have s12 := ok.f fe_1_10
  have s13 := ok.f fe_12_10
  have i1 := g1.1.1
  have i3 := g1.1.2.2.1
  have x1 := xz_jr xs (i + 1)
  refine w_step rfl ?_
  refine w_aload rfl ?_
  refine w_aload rfl ?_
  refine w_iload rfl ?_
  refine w_push kc_1 ?_
  refine w_add ?_
  refine w_xs (j := 1) (by omega) hx ?_
  refine w_callV1I (oj_0 _).choose_spec rfl (c_X8_tell (d := 99) ok (by omega) (by omega)) ?_
  rintro z1 t1 ⟨ok1, fq1, hp1⟩
  have hl1 := fq1.len
  have fd1 := fq1.toD
  have f1 := fd1
  have h1 : ∀ p ∈ [(0, 8), (44, 100)], p.1 < 68 := by decide
  have wf1 := wf.sm (grA f1 h1 69 (by decide))
  have wg1 := wg.sm (grA f1 h1 70 (by decide))
  have sl1 := sl_sm sl (grA f1 h1 86 (by decide)) (grA f1 h1 87 (by decide))
  have k69 := grA f1 h1 69 (by decide)
  have k1 := k69 1
  have k2 := k69 2
  refine w_popI ?_
  refine w_aload rfl ?_
  refine w_aload rfl ?_
  refine w_iload rfl ?_
  refine w_push kc_1 ?_
  refine w_add ?_
  refine w_xs (j := 1) (by omega) hx ?_
  refine w_callV1I (oj_68 _).choose_spec rfl (c_X9_tell (d := 99) ok1 (by omega) (by omega)) ?_
  rintro z2 t2 ⟨ok2, fq2, hp2⟩
  have hl2 := fq2.len
  have fd2 := fq2.toD
  have h2 : ∀ p ∈ [(68, 35), (91, 100)], 68 ≤ p.1 := by decide
  have wf2 := wf1.sm (fd2.2.1 69 (by simp))
  have wg2 := wg1.sm (fd2.2.1 70 (by simp))
  have sl2 := sl_sm sl1 (fd2.2.1 86 (by simp)) (fd2.2.1 87 (by simp))
  refine w_popI ?_
  refine w_goto ?_
  obtain ⟨zz, nm⟩ := br_41 fd1 fd2 rm hp1 hp2
  have n1 := RG.st g1 f1 fd2 h1 (by decide) (by simp [gX]) (by simp [gX]) (fd2.2.1 69 (by simp))
  have k9 := frI fd2 h2 0 9 (by decide)
  have k8 := f1.1 0 9 (by simp)
  have n2 : ¬ tI t2 0 9 = 0 → RG t2 t2 12 13 14 15 19 70 := fun hk => RG.st (g2 (fun q => hk (by rw [k9, k8, q]))) f1 fd2 h1 (by decide) (by simp [gX]) (by simp [gX]) (fd2.2.1 70 (by simp))
  have ns := RS.st rs f1 fd2 h1 h2 (by decide) (by decide)
  have nl := RW.st rl f1 fd2 h1 h2 (by decide) (by decide)
  have y1 := frI fd2 h2 1 13 (by decide)
  have y2 := frI fd2 h2 12 13 (by decide)
  have l1 := f1.1 1 13 (by simp)
  have l2 := f1.1 12 13 (by simp)
  have d1 : 0 ≤ tI t2 1 13 ∧ tI t2 1 13 ≤ 9999 := by omega
  have d2 : 0 ≤ tI t2 12 13 ∧ tI t2 12 13 ≤ 9999 := by omega
  exact key t2 ⟨ok2, wf2, wg2, d1, d2, sl2, n1, n2, ns, nl, nm, by omega⟩
set_option maxRecDepth 100000 in
theorem lw_42 {xs : List Int32} {i : Int} {N m : Nat} {t : TS} {P : Option Value → ab_W → Prop} (hi : 0 ≤ i ∧ i + 6 ≤ xs.length) (hx : xs.length ≤ 3072) (v : INV m t) (hm : m ≤ 600) (key : ∀ t', INV (m + 1) t' → Rn (bL_law xs (EX FU 100)) N 46 [some (.ref 1000001), some (.ref 0), some (.ref 68), some (.int (jI i))] [] (mk t') P) : Rn (bL_law xs (EX FU 100)) (N + 1) 42 [some (.ref 1000001), some (.ref 0), some (.ref 68), some (.int (jI i))] [] (mk t) P := by
  obtain ⟨ok, wf, wg, c1, c2, sl, g1, g2, rs, rl, rm, dl⟩ := v
  have s12 := ok.f fe_1_10
  have s13 := ok.f fe_12_10
  have i1 := g1.1.1
  have i3 := g1.1.2.2.1
  have x1 := xz_jr xs (i + 1)
  refine w_step rfl ?_
  refine w_aload rfl ?_
  refine w_aload rfl ?_
  refine w_iload rfl ?_
  refine w_push kc_1 ?_
  refine w_add ?_
  refine w_xs (j := 1) (by omega) hx ?_
  refine w_callV1I (oj_0 _).choose_spec rfl (c_X8_check (d := 94) ok (by omega) (by omega) (by omega) (by omega)) ?_
  rintro z1 t1 ⟨ok1, fq1, hp1⟩
  have hl1 := fq1.len
  have fd1 := fq1.toD
  have f1 := fd1
  have h1 : ∀ p ∈ [(0, 8), (24, 10), (24, 11), (24, 12), (24, 13), (24, 14), (25, 100), (26, 100), (27, 100), (28, 100), (29, 100), (30, 100), (31, 100), (32, 100), (34, 100), (33, 101)], p.1 < 68 := by decide
  have wf1 := wf.sm (grA f1 h1 69 (by decide))
  have wg1 := wg.sm (grA f1 h1 70 (by decide))
  have sl1 := sl_sm sl (grA f1 h1 86 (by decide)) (grA f1 h1 87 (by decide))
  have k69 := grA f1 h1 69 (by decide)
  have k1 := k69 1
  have k2 := k69 2
  refine w_popI ?_
  refine w_aload rfl ?_
  refine w_aload rfl ?_
  refine w_iload rfl ?_
  refine w_push kc_1 ?_
  refine w_add ?_
  refine w_xs (j := 1) (by omega) hx ?_
  refine w_callV1I (oj_68 _).choose_spec rfl (c_X9_check (d := 93) ok1 wf1 wg1 (by omega) (by omega)) ?_
  rintro z2 t2 ⟨ok2, fq2, hp2⟩
  have hl2 := fq2.len
  have fd2 := fq2.toD
  have h2 : ∀ p ∈ [(68, 35), (69, 100), (71, 100), (81, 100), (82, 100)], 68 ≤ p.1 := by decide
  have wg2 := wg1.sm (fq2.2.1 70 (by simp))
  have sl2 := sl_sm sl1 (fq2.2.1 86 (by simp)) (fq2.2.1 87 (by simp))
  have o3 := fq2.2.1 70 (by simp) 1
  have o4 := fq2.2.1 70 (by simp) 2
  have o5 := fq2.1 68 3 (by simp)
  have h69 := hp2.2.2.2
  have wf2 : WF t2 69 := WF.cp (by have h4 := ok1.a (ax_69 nr_4); omega) wf1 (fun j hj => h69 j (by omega))
  have o1 := h69 1 (by decide)
  have o2 := h69 2 (by decide)
  refine w_popI ?_
  refine w_goto ?_
  obtain ⟨zz, nm⟩ := br_42 fd1 fd2 rm hp1 hp2
  have n1 := RG.sq g1 f1 fd2 h1 (by decide) (by simp [gX]) (by simp [gX]) (by omega) (fun i hi => hp2.2.2.2 i (by omega))
  have k9 := frI fd2 h2 0 9 (by decide)
  have k8 := f1.1 0 9 (by simp)
  have n2 : ¬ tI t2 0 9 = 0 → RG t2 t2 12 13 14 15 19 70 := fun hk => RG.st (g2 (fun q => hk (by rw [k9, k8, q]))) f1 fd2 h1 (by decide) (by simp [gX]) (by simp [gX]) (fd2.2.1 70 (by simp))
  have ns := RS.st rs f1 fd2 h1 h2 (by decide) (by decide)
  have nl := RW.st rl f1 fd2 h1 h2 (by decide) (by decide)
  have y1 := frI fd2 h2 1 13 (by decide)
  have y2 := frI fd2 h2 12 13 (by decide)
  have l1 := f1.1 1 13 (by simp)
  have l2 := f1.1 12 13 (by simp)
  have d1 : 0 ≤ tI t2 1 13 ∧ tI t2 1 13 ≤ 9999 := by omega
  have d2 : 0 ≤ tI t2 12 13 ∧ tI t2 12 13 ≤ 9999 := by omega
  exact key t2 ⟨ok2, wf2, wg2, d1, d2, sl2, n1, n2, ns, nl, nm, by omega⟩
set_option maxRecDepth 100000 in
theorem lw_43 {xs : List Int32} {i : Int} {N m : Nat} {t : TS} {P : Option Value → ab_W → Prop} (hi : 0 ≤ i ∧ i + 6 ≤ xs.length) (hx : xs.length ≤ 3072) (v : INV m t) (hm : m ≤ 600) (key : ∀ t', INV (m + 1) t' → Rn (bL_law xs (EX FU 100)) N 46 [some (.ref 1000001), some (.ref 0), some (.ref 68), some (.int (jI i))] [] (mk t') P) : Rn (bL_law xs (EX FU 100)) (N + 1) 43 [some (.ref 1000001), some (.ref 0), some (.ref 68), some (.int (jI i))] [] (mk t) P := by
  obtain ⟨ok, wf, wg, c1, c2, sl, g1, g2, rs, rl, rm, dl⟩ := v
  have s12 := ok.f fe_1_10
  have s13 := ok.f fe_12_10
  have i1 := g1.1.1
  have i3 := g1.1.2.2.1
  refine w_step rfl ?_
  refine w_aload rfl ?_
  refine w_callV0I (oj_0 _).choose_spec rfl (c_X8_keep (d := 98) ok ) ?_
  rintro z1 t1 ⟨ok1, fq1, hp1⟩
  have hl1 := fq1.len
  have fd1 := fq1.toD
  have f1 := fd1
  have h1 : ∀ p ∈ [(12, 10), (12, 11), (12, 12), (12, 13), (12, 14), (13, 100), (14, 100), (15, 100), (16, 100), (17, 100), (18, 100), (19, 100), (20, 100), (22, 100), (21, 101), (0, 9)], p.1 < 68 := by decide
  have wf1 := wf.sm (grA f1 h1 69 (by decide))
  have wg1 := wg.sm (grA f1 h1 70 (by decide))
  have sl1 := sl_sm sl (grA f1 h1 86 (by decide)) (grA f1 h1 87 (by decide))
  have k69 := grA f1 h1 69 (by decide)
  have k1 := k69 1
  have k2 := k69 2
  refine w_popI ?_
  refine w_aload rfl ?_
  refine w_callV0I (oj_68 _).choose_spec rfl (c_X9_keep (d := 98) ok1 ) ?_
  rintro z2 t2 ⟨ok2, fq2, hp2⟩
  have hl2 := fq2.len
  have fd2 := fq2.toD
  have h2 : ∀ p ∈ [(70, 100), (68, 3)], 68 ≤ p.1 := by decide
  have wf2 := wf1.sm (fq2.2.1 69 (by simp))
  have sl2 := sl_sm sl1 (fq2.2.1 86 (by simp)) (fq2.2.1 87 (by simp))
  have o1 := fq2.2.1 69 (by simp) 1
  have o2 := fq2.2.1 69 (by simp) 2
  have zk2 := hp2.1
  have o5 := hp2.2.1
  have h70 := hp2.2.2
  have wg2 : WF t2 70 := WF.cp (by have h4 := ok1.a (ax_69 nr_4); omega) wf1 (fun j hj => h70 j (by omega))
  have o3 := h70 1 (by decide)
  have o4 := h70 2 (by decide)
  refine w_popI ?_
  refine w_goto ?_
  obtain ⟨zz, n2, nm⟩ := br_43 fd1 fd2 g1 rm (by omega) hp1 hp2
  have n1 := RG.st g1 f1 fd2 h1 (by decide) (by simp [gX]) (by simp [gX]) (fd2.2.1 69 (by simp))
  have k9 := frI fd2 h2 0 9 (by decide)
  have ns := RS.st rs f1 fd2 h1 h2 (by decide) (by decide)
  have nl := RW.st rl f1 fd2 h1 h2 (by decide) (by decide)
  have y1 := frI fd2 h2 1 13 (by decide)
  have y2 := frI fd2 h2 12 13 (by decide)
  have l1 := f1.1 1 13 (by simp)
  have l2 := hp1.2.2.2.2.2.1
  have d1 : 0 ≤ tI t2 1 13 ∧ tI t2 1 13 ≤ 9999 := by omega
  have d2 : 0 ≤ tI t2 12 13 ∧ tI t2 12 13 ≤ 9999 := by omega
  exact key t2 ⟨ok2, wf2, wg2, d1, d2, sl2, n1, fun _ => n2, ns, nl, nm, by omega⟩
set_option maxRecDepth 100000 in
theorem lw_44 {xs : List Int32} {i : Int} {N m : Nat} {t : TS} {P : Option Value → ab_W → Prop} (hi : 0 ≤ i ∧ i + 6 ≤ xs.length) (hx : xs.length ≤ 3072) (v : INV m t) (hm : m ≤ 600) (key : ∀ t', INV (m + 1) t' → Rn (bL_law xs (EX FU 100)) N 46 [some (.ref 1000001), some (.ref 0), some (.ref 68), some (.int (jI i))] [] (mk t') P) : Rn (bL_law xs (EX FU 100)) (N + 1) 44 [some (.ref 1000001), some (.ref 0), some (.ref 68), some (.int (jI i))] [] (mk t) P := by
  obtain ⟨ok, wf, wg, c1, c2, sl, g1, g2, rs, rl, rm, dl⟩ := v
  have s12 := ok.f fe_1_10
  have s13 := ok.f fe_12_10
  have i1 := g1.1.1
  have i3 := g1.1.2.2.1
  refine w_step rfl ?_
  refine w_aload rfl ?_
  refine w_callV0I (oj_0 _).choose_spec rfl (c_X8_back (d := 98) ok ) ?_
  rintro z1 t1 ⟨ok1, fq1, hp1⟩
  have hl1 := fq1.len
  have fd1 := fq1.toD
  have f1 := fd1
  have h1 : ∀ p ∈ [(1, 10), (1, 11), (1, 12), (1, 13), (1, 14), (2, 100), (3, 100), (4, 100), (5, 100), (6, 100), (7, 100), (8, 100), (9, 100), (11, 100), (10, 101)], p.1 < 68 := by decide
  have wf1 := wf.sm (grA f1 h1 69 (by decide))
  have wg1 := wg.sm (grA f1 h1 70 (by decide))
  have sl1 := sl_sm sl (grA f1 h1 86 (by decide)) (grA f1 h1 87 (by decide))
  have k69 := grA f1 h1 69 (by decide)
  have k1 := k69 1
  have k2 := k69 2
  refine w_popI ?_
  refine w_aload rfl ?_
  refine w_callV0I (oj_68 _).choose_spec rfl (c_X9_back (d := 98) ok1 ) ?_
  rintro z2 t2 ⟨ok2, fq2, hp2⟩
  have hl2 := fq2.len
  have fd2 := fq2.toD
  have h2 : ∀ p ∈ [(69, 100)], 68 ≤ p.1 := by decide
  have wg2 := wg1.sm (fq2.2.1 70 (by simp))
  have sl2 := sl_sm sl1 (fq2.2.1 86 (by simp)) (fq2.2.1 87 (by simp))
  have o3 := fq2.2.1 70 (by simp) 1
  have o4 := fq2.2.1 70 (by simp) 2
  have o5 := fq2.1 68 3 (by simp)
  have l2 : (tI t1 68 3 = 0 ∧ z2 = -1000000002 ∧ tA t2 69 1 = tA t1 69 1 ∧ tA t2 69 2 = tA t1 69 2) ∨ (¬ tI t1 68 3 = 0 ∧ z2 = tA t1 70 1 ∧ tA t2 69 1 = tA t1 70 1 ∧ tA t2 69 2 = tA t1 70 2) := by
    rcases hp2 with h | h
    · exact Or.inl ⟨h.1, h.2.1, by rw [h.2.2], by rw [h.2.2]⟩
    · exact Or.inr ⟨h.1, h.2.1, h.2.2 1 (by decide), h.2.2 2 (by decide)⟩
  have wf2 : WF t2 69 := by
    rcases hp2 with h | h
    · rw [h.2.2]; exact wf1
    · exact WF.cp (by have h4 := ok1.a (ax_70 nr_4); omega) wg1 (fun j hj => h.2.2 j (by omega))
  refine w_popI ?_
  refine w_goto ?_
  obtain ⟨zz, n1⟩ := br_44 fd1 fd2 g1 g2 rm (by omega) hp1 hp2
  have k9 := frI fd2 h2 0 9 (by decide)
  have k8 := f1.1 0 9 (by simp)
  have n2 : ¬ tI t2 0 9 = 0 → RG t2 t2 12 13 14 15 19 70 := fun hk => RG.st (g2 (fun q => hk (by rw [k9, k8, q]))) f1 fd2 h1 (by decide) (by simp [gX]) (by simp [gX]) (fd2.2.1 70 (by simp))
  have ns := RS.st rs f1 fd2 h1 h2 (by decide) (by decide)
  have nl := RW.st rl f1 fd2 h1 h2 (by decide) (by decide)
  have nm := RM.st rm f1 fd2 h1 h2 (by simp [mX]) (by simp [mY])
  have y1 := frI fd2 h2 1 13 (by decide)
  have y2 := frI fd2 h2 12 13 (by decide)
  have l1 : tI t1 1 13 = tI t 1 13 ∨ tI t1 1 13 = tI t 12 13 := by
    rcases hp1 with h | h
    · exact Or.inl (by rw [h.2.2])
    · exact Or.inr h.2.2.2.2.2.1
  have l2 := f1.1 12 13 (by simp)
  have d1 : 0 ≤ tI t2 1 13 ∧ tI t2 1 13 ≤ 9999 := by omega
  have d2 : 0 ≤ tI t2 12 13 ∧ tI t2 12 13 ≤ 9999 := by omega
  exact key t2 ⟨ok2, wf2, wg2, d1, d2, sl2, n1, n2, ns, nl, nm, by omega⟩
set_option maxRecDepth 100000 in
theorem lw_45 {xs : List Int32} {i : Int} {N m : Nat} {t : TS} {P : Option Value → ab_W → Prop} (hi : 0 ≤ i ∧ i + 6 ≤ xs.length) (hx : xs.length ≤ 3072) (v : INV m t) (hm : m ≤ 600) (key : ∀ t', INV (m + 1) t' → Rn (bL_law xs (EX FU 100)) N 46 [some (.ref 1000001), some (.ref 0), some (.ref 68), some (.int (jI i))] [] (mk t') P) : Rn (bL_law xs (EX FU 100)) (N + 1) 45 [some (.ref 1000001), some (.ref 0), some (.ref 68), some (.int (jI i))] [] (mk t) P := by
  obtain ⟨ok, wf, wg, c1, c2, sl, g1, g2, rs, rl, rm, dl⟩ := v
  have s12 := ok.f fe_1_10
  have s13 := ok.f fe_12_10
  have i1 := g1.1.1
  have i3 := g1.1.2.2.1
  have x1 := xz_jr xs (i + 1)
  refine w_step rfl ?_
  refine w_aload rfl ?_
  refine w_aload rfl ?_
  refine w_iload rfl ?_
  refine w_push kc_1 ?_
  refine w_add ?_
  refine w_xs (j := 1) (by omega) hx ?_
  refine w_callV1I (oj_0 _).choose_spec rfl (c_X8_count (d := 97) ok (by omega) (by omega)) ?_
  rintro z1 t1 ⟨tt1, hp1⟩
  have ok1 : OK t1 := tt1 ▸ ok
  have fd1 : FrD [] t t1 := tt1 ▸ FrD.rf t
  have hl1 : (tD t1).length = (tD t).length := by rw [tt1]
  have f1 := fd1
  have h1 : ∀ p ∈ ([] : List (Nat × Nat)), p.1 < 68 := by simp
  have wf1 := wf.sm (grA f1 h1 69 (by decide))
  have wg1 := wg.sm (grA f1 h1 70 (by decide))
  have sl1 := sl_sm sl (grA f1 h1 86 (by decide)) (grA f1 h1 87 (by decide))
  have k69 := grA f1 h1 69 (by decide)
  have k1 := k69 1
  have k2 := k69 2
  refine w_popI ?_
  refine w_aload rfl ?_
  refine w_aload rfl ?_
  refine w_iload rfl ?_
  refine w_push kc_1 ?_
  refine w_add ?_
  refine w_xs (j := 1) (by omega) hx ?_
  refine w_callV1I (oj_68 _).choose_spec rfl (c_X9_count (d := 97) ok1 (by omega) (by omega)) ?_
  rintro z2 t2 ⟨tt2, hp2⟩
  have ok2 : OK t2 := tt2 ▸ ok1
  have fd2 : FrD [] t1 t2 := tt2 ▸ FrD.rf t1
  have hl2 : (tD t2).length = (tD t1).length := by rw [tt2]
  have h2 : ∀ p ∈ ([] : List (Nat × Nat)), 68 ≤ p.1 := by simp
  have wf2 := wf1.sm (fd2.2.1 69 (by simp))
  have wg2 := wg1.sm (fd2.2.1 70 (by simp))
  have sl2 := sl_sm sl1 (fd2.2.1 86 (by simp)) (fd2.2.1 87 (by simp))
  refine w_popI ?_
  refine w_goto ?_
  have n1 := RG.st g1 f1 fd2 h1 (by decide) (by simp [gX]) (by simp [gX]) (fd2.2.1 69 (by simp))
  have k9 := frI fd2 h2 0 9 (by decide)
  have k8 := f1.1 0 9 (by simp)
  have n2 : ¬ tI t2 0 9 = 0 → RG t2 t2 12 13 14 15 19 70 := fun hk => RG.st (g2 (fun q => hk (by rw [k9, k8, q]))) f1 fd2 h1 (by decide) (by simp [gX]) (by simp [gX]) (fd2.2.1 70 (by simp))
  have ns := RS.st rs f1 fd2 h1 h2 (by simp) (by simp)
  have nl := RW.st rl f1 fd2 h1 h2 (by simp) (by simp)
  have nm := RM.st rm f1 fd2 h1 h2 (by simp [mX]) (by simp [mY])
  have y1 := frI fd2 h2 1 13 (by decide)
  have y2 := frI fd2 h2 12 13 (by decide)
  have l1 := f1.1 1 13 (by simp)
  have l2 := f1.1 12 13 (by simp)
  have d1 : 0 ≤ tI t2 1 13 ∧ tI t2 1 13 ≤ 9999 := by omega
  have d2 : 0 ≤ tI t2 12 13 ∧ tI t2 12 13 ≤ 9999 := by omega
  exact key t2 ⟨ok2, wf2, wg2, d1, d2, sl2, n1, n2, ns, nl, nm, by omega⟩
