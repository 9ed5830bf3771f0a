theorem ok_x {C : Int → Prop} {g : Int} (h : ∀ i : Int, 0 ≤ i → i < g → C i) (e : C g) : ∀ i : Int, 0 ≤ i → i < g + 1 → C i := by
  intro i h1 h2
  by_cases q : i = g
  · subst q; exact e
  · exact h i h1 (by omega)
set_option maxRecDepth 100000 in
set_option maxHeartbeats 4000000 in
theorem e_X9_check {d : Nat} {t : TS} {n : Int}  (ok : OK t) (q0 : WF t 69) (q1 : NZ t 69) (q2 : tI t 68 4 = -1) (q3 : WF t 70) (q4 : NZ t 70) (q5 : -2147483648 ≤ n) (q6 : n ≤ 2147483647) (q7 : 0 ≤ tA t 70 2) (q8 : tA t 70 2 ≤ 9999) : CI (EX FU (d + 7)) 218 [.ref 68, .int (jI n)] (mk t) (fun z t' => OK t' ∧ Fr [(68, 35), (69, 100), (71, 100), (81, 100), (82, 100)] t t' ∧ (tI t' 68 35 = 0) ∧ (∀ i : Nat, i < 1461 → tA t' 69 i = tA t 69 i) ∧ (((¬ (1 ≤ n ∧ n ≤ 30)) ∧ z = (-1000000001)) ∨ ((1 ≤ n ∧ n ≤ 30) ∧ (tI t 68 3 = 0) ∧ z = (-1000000002)) ∨ ((1 ≤ n ∧ n ≤ 30) ∧ (¬ tI t 68 3 = 0) ∧ (CkP (pcA t 70) (mtA t 70) (tA t 91) (tI t 68 35) (2 * (min n (9999 - tA t 70 2))) z)))) := by
  refine CI_ent (d := d + 6) (Bk := bX9_check) (nL := 6) rfl rfl rfl (Nat.le_of_ble_eq_true rfl) ?_
  show Rn _ 1000000 0 [some (.ref 68), some (.int (jI n)), none, none, none, none] [] _ _
  have fr : Fr [(68, 35), (69, 100), (71, 100), (81, 100), (82, 100)] t t := Fr.rf _ _
  have hn0 := (ok.a (ax_69 nr_1)).1
  have hn1 := (ok.a (ax_69 nr_1)).2
  have hn70 := (ok.a (ax_70 nr_1)).2
  have hc70 := (ok.a (ax_70 nr_4)).2
  refine w_step rfl ?_
  refine w_aload rfl ?_
  refine w_getI (g_68_35 _) fe_68_35 ok (fun z1 hz1 hl1 hh1 => ?_)
  have ew8 := hz1
  refine w_istore (lv' := [some (.ref 68), some (.int (jI n)), some (.int (jI z1)), none, none, none]) rfl ?_
  refine w_aload rfl ?_
  refine w_push kc_0 ?_
  refine w_putI (p_68_35 _) fe_68_35 ok (by omega) (fun t2 ht2 ok2 => ?_)
  have fr2 := fr.uI ht2 (by simp)
  have wf2 := q0.uI ht2
  have ew : tI t2 68 35 = 0 := by rw [ht2, tI_uI, if_pos ⟨rfl, rfl⟩]
  have e6 : ∀ c i, tA t2 c i = tA t c i := fun c i => by rw [ht2, tA_uI]
  have e4 : tI t2 68 4 = -1 := by rw [ht2, tI_uI, if_neg (by decide)]; exact q2
  refine w_iload rfl ?_
  refine w_push kc_1 ?_
  refine w_push kc_30 ?_
  refine w_callS3I rfl (c_X9_in ok2 (by omega) (by omega) (by omega) (by omega) (by omega) (by omega)) ?_
  rintro z3 t3 ⟨rfl, hp3_0⟩
  rcases hp3_0 with ⟨rfl, hp3_0⟩ | ⟨rfl, hp3_0⟩
  · skip
    refine w_ine (by omega) (fun h => absurd h (by omega)) (fun _ => ?_)
    refine w_push kc_m1000000001 ?_
    refine w_retI rfl ?_
    exact ⟨ok2, fr2, ew, (by first | exact pf | exact fun i _ => e6 69 i), (by first | (exact Or.inl ⟨by omega, by first | omega | (subst_vars; rfl)⟩) | (exact Or.inr (Or.inl ⟨by omega, by omega, by first | omega | (subst_vars; rfl)⟩)) | (exact Or.inr (Or.inr (⟨by omega, by omega, by rw [← ew8]; rw [← ew8] at i3_9 i3_10; first | exact ⟨g, ⟨by omega, by omega, i3_9, by omega⟩, by rw [if_pos ⟨by omega, by omega⟩]⟩ | exact ⟨g, ⟨by omega, by omega, i3_9, by omega⟩, by rw [if_neg (by omega)]⟩⟩))))⟩
  refine w_ine (by omega) (fun _ => ?_) (fun h => absurd (by omega) h)
  refine w_step rfl ?_
  refine w_aload rfl ?_
  refine w_getI (g_68_3 _) fe_68_3 ok2 (fun z4 hz4 hl4 hh4 => ?_)
  have e9 : z4 = tI t 68 3 := by rw [hz4, ht2, tI_uI, if_neg (by decide)]
  refine w_ine (by omega) (fun h5 => ?_) (fun h5 => ?_)
  · skip
    refine w_step rfl ?_
    refine w_aload rfl ?_
    refine w_getR (g_68_0 _) ?_
    refine w_aload rfl ?_
    refine w_getR (g_68_2 _) ?_
    refine w_callS2V rfl (c_X9_copyAll_69_71 ok2) ?_
    rintro t6 ⟨ok6, fq6, hp6_0⟩
    have fr6 := fr2.then fq6 (by simp)
    have wf6 := wf2.fr fq6 (by simp)
    have e7 : ∀ i : Nat, i < 1461 → tA t6 71 i = tA t 69 i := fun i hi => (hp6_0 i hi).trans (e6 69 i)
    have ew : tI t6 68 35 = 0 := (fq6.1 68 35 (by simp)).trans ew
    have e5 : ∀ i, tA t6 70 i = tA t 70 i := fun i => (fq6.2.1 70 (by simp) i).trans (e6 70 i)
    have e91 : ∀ i, tA t6 91 i = tA t 91 i := fun i => (fq6.2.1 91 (by simp) i).trans (e6 91 i)
    have e4 : tI t6 68 4 = -1 := (fq6.1 68 4 (by simp)).trans e4
    refine w_aload rfl ?_
    refine w_getR (g_68_1 _) ?_
    refine w_aload rfl ?_
    refine w_getR (g_68_0 _) ?_
    refine w_callS2V rfl (c_X9_copyAll_70_69 ok6) ?_
    rintro t7 ⟨ok7, fq7, hp7_0⟩
    have fr7 := fr6.then fq7 (by simp)
    have e7 : ∀ i : Nat, i < 1461 → tA t7 71 i = tA t 69 i := fun i hi => (fq7.2.1 71 (by simp) i).trans (e7 i hi)
    have ew : tI t7 68 35 = 0 := (fq7.1 68 35 (by simp)).trans ew
    have e91 : ∀ i, tA t7 91 i = tA t 91 i := fun i => (fq7.2.1 91 (by simp) i).trans (e91 i)
    have wf7 : WF t7 69 := WF.cp (c := 70) (e := 69) (ok.a (ax_70 nr_4)).2 q3 (fun i hi => (hp7_0 i (by omega)).trans (e5 i))
    have e4 : tI t7 68 4 = -1 := (fq7.1 68 4 (by simp)).trans e4
    have br : BRp t t7 70 0 := bq_0 q3 q4 hc70 hn70 (fun i hi => (hp7_0 i hi).trans (e5 i)) e4
    have ed := (hp7_0 2 (by decide)).trans (e5 2)
    refine w_push kc_2 ?_
    refine w_push kc_9999 ?_
    refine w_aload rfl ?_
    refine w_getR (g_68_0 _) ?_
    refine w_push kc_2 ?_
    refine w_iald (i := 2) (ai_69 _) (by omega) (by omega) (ax_69 nr_2) ok7 (fun z8 hz8 hl8 hh8 => ?_)
    have ed2 := hz8
    rw [ed] at ed2
    refine w_subW (fun z9 hz9 hl9 hh9 => ?_)
    have e17 : z9 = 9999 - tA t 70 2 := by rw [hz9, nrm_id (by omega)]; omega
    refine w_push kc_0 ?_
    refine w_iload rfl ?_
    refine w_callS3I rfl (c_X9_within ok7 (by omega) (by omega) (by omega) (by omega) (by omega) (by omega) (by omega)) ?_
    rintro z10 t10 ⟨rfl, hp10_0⟩
    have eMD : z10 = min n (9999 - tA t 70 2) := by omega
    refine w_mul ?_
    refine w_istore (lv' := [some (.ref 68), some (.int (jI n)), some (.int (jI z1)), some (.int (jI (2 * z10))), none, none]) rfl ?_
    refine w_push kc_0 ?_
    refine w_istore (lv' := [some (.ref 68), some (.int (jI n)), some (.int (jI z1)), some (.int (jI (2 * z10))), some (.int (jI 0)), none]) rfl ?_
    refine w_push kc_0 ?_
    refine w_istore (lv' := [some (.ref 68), some (.int (jI n)), some (.int (jI z1)), some (.int (jI (2 * z10))), some (.int (jI 0)), some (.int (jI 0))]) rfl ?_
    refine w_goto ?_
    have key3 : ∀ (n3 M3 : Nat) (g : Int) (k : Int) (t11 : TS), OK t11 → Fr [(68, 35), (69, 100), (71, 100), (81, 100), (82, 100)] t t11 → WF t11 69 → (0 ≤ k) → (k ≤ 30) → (0 ≤ g) → (g ≤ 2 * k) → (∀ i : Nat, i < 1461 → tA t11 71 i = tA t 69 i) → (tI t11 68 35 = 0) → (∀ i, tA t11 91 i = tA t 91 i) → (BRp t t11 70 k.toNat) → (k ≤ min n (9999 - tA t 70 2)) → (∀ i : Int, 0 ≤ i → i < g → i < tI t 68 35 ∧ tA t 91 (i).toNat = dueF (pcA t 70) (mtA t 70) i) → (g = 2 * k ∨ ¬ (g < tI t 68 35 ∧ tA t 91 (g).toNat = dueF (pcA t 70) (mtA t 70) g)) → 31 - k < (n3 : Int) → 60 * n3 + (1000) ≤ M3 → Rn (bX9_check (EX FU (d + 6))) M3 3 [some (.ref 68), some (.int (jI n)), some (.int (jI z1)), some (.int (jI (2 * z10))), some (.int (jI g)), some (.int (jI k))] [] (mk t11) (PI (fun z t' => OK t' ∧ Fr [(68, 35), (69, 100), (71, 100), (81, 100), (82, 100)] t t' ∧ (tI t' 68 35 = 0) ∧ (∀ i : Nat, i < 1461 → tA t' 69 i = tA t 69 i) ∧ (((¬ (1 ≤ n ∧ n ≤ 30)) ∧ z = (-1000000001)) ∨ ((1 ≤ n ∧ n ≤ 30) ∧ (tI t 68 3 = 0) ∧ z = (-1000000002)) ∨ ((1 ≤ n ∧ n ≤ 30) ∧ (¬ tI t 68 3 = 0) ∧ (CkP (pcA t 70) (mtA t 70) (tA t 91) (tI t 68 35) (2 * (min n (9999 - tA t 70 2))) z))))) := by
      intro n3
      induction n3 with
      | zero => intro M3 g k t11 ok11 fr11 wf11 i3_0 i3_1 i3_2 i3_3 i3_4 i3_5 i3_6 i3_7 i3_8 i3_9 i3_10 v3 f3; exfalso; omega
      | succ n3 ih3 =>
        intro M3 g k t11 ok11 fr11 wf11 i3_0 i3_1 i3_2 i3_3 i3_4 i3_5 i3_6 i3_7 i3_8 i3_9 i3_10 v3 f3
        obtain ⟨M3, rfl⟩ : ∃ m, M3 = m + 60 := ⟨M3 - 60, by omega⟩
        have e7 := i3_4
        have ew := i3_5
        have e91 := i3_6
        have br := i3_7
        refine w_step rfl ?_
        refine w_push kc_2 ?_
        refine w_iload rfl ?_
        refine w_mul ?_
        refine w_iload rfl ?_
        refine w_cge (by omega) (fun h12 => ?_) (fun h12 => ?_)
        · skip
          refine w_step rfl ?_
          refine w_aload rfl ?_
          refine w_getR (g_68_2 _) ?_
          refine w_aload rfl ?_
          refine w_getR (g_68_0 _) ?_
          refine w_callS2V rfl (c_X9_copyAll_71_69 ok11) ?_
          rintro t13 ⟨ok13, fq13, hp13_0⟩
          have fr13 := fr11.then fq13 (by simp)
          have pf : ∀ i : Nat, i < 1461 → tA t13 69 i = tA t 69 i := fun i hi => (hp13_0 i hi).trans (e7 i hi)
          have ew : tI t13 68 35 = 0 := (fq13.1 68 35 (by simp)).trans ew
          refine w_iload rfl ?_
          refine w_iload rfl ?_
          refine w_cne (by omega) (fun h14 => ?_) (fun h14 => ?_)
          · skip
            refine w_step rfl ?_
            refine w_push kc_1 ?_
            refine w_iload rfl ?_
            refine w_add ?_
            refine w_goto ?_
            refine w_step rfl ?_
            refine w_retI rfl ?_
            exact ⟨ok13, fr13, ew, (by first | exact pf | exact fun i _ => e6 69 i), (by first | (exact Or.inl ⟨by omega, by first | omega | (subst_vars; rfl)⟩) | (exact Or.inr (Or.inl ⟨by omega, by omega, by first | omega | (subst_vars; rfl)⟩)) | (exact Or.inr (Or.inr (⟨by omega, by omega, by rw [← ew8]; rw [← ew8] at i3_9 i3_10; first | exact ⟨g, ⟨by omega, by omega, i3_9, by omega⟩, by rw [if_pos ⟨by omega, by omega⟩]⟩ | exact ⟨g, ⟨by omega, by omega, i3_9, by omega⟩, by rw [if_neg (by omega)]⟩⟩))))⟩
          refine w_iload rfl ?_
          refine w_iload rfl ?_
          refine w_cne (by omega) (fun h15 => ?_) (fun h15 => ?_)
          · skip
            refine w_step rfl ?_
            refine w_push kc_1 ?_
            refine w_iload rfl ?_
            refine w_add ?_
            refine w_goto ?_
            refine w_step rfl ?_
            refine w_retI rfl ?_
            exact ⟨ok13, fr13, ew, (by first | exact pf | exact fun i _ => e6 69 i), (by first | (exact Or.inl ⟨by omega, by first | omega | (subst_vars; rfl)⟩) | (exact Or.inr (Or.inl ⟨by omega, by omega, by first | omega | (subst_vars; rfl)⟩)) | (exact Or.inr (Or.inr (⟨by omega, by omega, by rw [← ew8]; rw [← ew8] at i3_9 i3_10; first | exact ⟨g, ⟨by omega, by omega, i3_9, by omega⟩, by rw [if_pos ⟨by omega, by omega⟩]⟩ | exact ⟨g, ⟨by omega, by omega, i3_9, by omega⟩, by rw [if_neg (by omega)]⟩⟩))))⟩
          refine w_push kc_0 ?_
          refine w_goto ?_
          refine w_step rfl ?_
          refine w_retI rfl ?_
          exact ⟨ok13, fr13, ew, (by first | exact pf | exact fun i _ => e6 69 i), (by first | (exact Or.inl ⟨by omega, by first | omega | (subst_vars; rfl)⟩) | (exact Or.inr (Or.inl ⟨by omega, by omega, by first | omega | (subst_vars; rfl)⟩)) | (exact Or.inr (Or.inr (⟨by omega, by omega, by rw [← ew8]; rw [← ew8] at i3_9 i3_10; first | exact ⟨g, ⟨by omega, by omega, i3_9, by omega⟩, by rw [if_pos ⟨by omega, by omega⟩]⟩ | exact ⟨g, ⟨by omega, by omega, i3_9, by omega⟩, by rw [if_neg (by omega)]⟩⟩))))⟩
        refine w_iload rfl ?_
        refine w_push kc_2 ?_
        refine w_iload rfl ?_
        refine w_mul ?_
        refine w_cne (by omega) (fun h16 => ?_) (fun h16 => ?_)
        · skip
          refine w_step rfl ?_
          refine w_aload rfl ?_
          refine w_getR (g_68_2 _) ?_
          refine w_aload rfl ?_
          refine w_getR (g_68_0 _) ?_
          refine w_callS2V rfl (c_X9_copyAll_71_69 ok11) ?_
          rintro t17 ⟨ok17, fq17, hp17_0⟩
          have fr17 := fr11.then fq17 (by simp)
          have pf : ∀ i : Nat, i < 1461 → tA t17 69 i = tA t 69 i := fun i hi => (hp17_0 i hi).trans (e7 i hi)
          have ew : tI t17 68 35 = 0 := (fq17.1 68 35 (by simp)).trans ew
          refine w_iload rfl ?_
          refine w_iload rfl ?_
          refine w_cne (by omega) (fun h18 => ?_) (fun h18 => ?_)
          · skip
            refine w_step rfl ?_
            refine w_push kc_1 ?_
            refine w_iload rfl ?_
            refine w_add ?_
            refine w_goto ?_
            refine w_step rfl ?_
            refine w_retI rfl ?_
            exact ⟨ok17, fr17, ew, (by first | exact pf | exact fun i _ => e6 69 i), (by first | (exact Or.inl ⟨by omega, by first | omega | (subst_vars; rfl)⟩) | (exact Or.inr (Or.inl ⟨by omega, by omega, by first | omega | (subst_vars; rfl)⟩)) | (exact Or.inr (Or.inr (⟨by omega, by omega, by rw [← ew8]; rw [← ew8] at i3_9 i3_10; first | exact ⟨g, ⟨by omega, by omega, i3_9, by omega⟩, by rw [if_pos ⟨by omega, by omega⟩]⟩ | exact ⟨g, ⟨by omega, by omega, i3_9, by omega⟩, by rw [if_neg (by omega)]⟩⟩))))⟩
          refine w_iload rfl ?_
          refine w_iload rfl ?_
          refine w_cne (by omega) (fun h19 => ?_) (fun h19 => ?_)
          · skip
            refine w_step rfl ?_
            refine w_push kc_1 ?_
            refine w_iload rfl ?_
            refine w_add ?_
            refine w_goto ?_
            refine w_step rfl ?_
            refine w_retI rfl ?_
            exact ⟨ok17, fr17, ew, (by first | exact pf | exact fun i _ => e6 69 i), (by first | (exact Or.inl ⟨by omega, by first | omega | (subst_vars; rfl)⟩) | (exact Or.inr (Or.inl ⟨by omega, by omega, by first | omega | (subst_vars; rfl)⟩)) | (exact Or.inr (Or.inr (⟨by omega, by omega, by rw [← ew8]; rw [← ew8] at i3_9 i3_10; first | exact ⟨g, ⟨by omega, by omega, i3_9, by omega⟩, by rw [if_pos ⟨by omega, by omega⟩]⟩ | exact ⟨g, ⟨by omega, by omega, i3_9, by omega⟩, by rw [if_neg (by omega)]⟩⟩))))⟩
          refine w_push kc_0 ?_
          refine w_goto ?_
          refine w_step rfl ?_
          refine w_retI rfl ?_
          exact ⟨ok17, fr17, ew, (by first | exact pf | exact fun i _ => e6 69 i), (by first | (exact Or.inl ⟨by omega, by first | omega | (subst_vars; rfl)⟩) | (exact Or.inr (Or.inl ⟨by omega, by omega, by first | omega | (subst_vars; rfl)⟩)) | (exact Or.inr (Or.inr (⟨by omega, by omega, by rw [← ew8]; rw [← ew8] at i3_9 i3_10; first | exact ⟨g, ⟨by omega, by omega, i3_9, by omega⟩, by rw [if_pos ⟨by omega, by omega⟩]⟩ | exact ⟨g, ⟨by omega, by omega, i3_9, by omega⟩, by rw [if_neg (by omega)]⟩⟩))))⟩
        refine w_aload rfl ?_
        refine w_callV0V (oj_68 _).choose_spec rfl (e_X9_day ok11 wf11 br.2.2.2.2.2.2.2 (AW_no br.2.1)) ?_
        rintro t20 ⟨ok20, fq20, hp20_0, hp20_1, hp20_2, hp20_3⟩
        have fr20 := fr11.then fq20 (by simp)
        have wf20 := wf11.dq hp20_0
        have e7 : ∀ i : Nat, i < 1461 → tA t20 71 i = tA t 69 i := fun i hi => (fq20.2.1 71 (by simp) i).trans (e7 i hi)
        have ew : tI t20 68 35 = 0 := (fq20.1 68 35 (by simp)).trans ew
        have e91 : ∀ i, tA t20 91 i = tA t 91 i := fun i => (fq20.2.1 91 (by simp) i).trans (e91 i)
        have br2 : BRp t t20 70 (k + 1).toNat := by
          rw [show (k + 1).toNat = k.toNat + 1 by omega]
          exact bq_s br hp20_3 hp20_0 hp20_1
        have okd := ok20
        refine w_iload rfl ?_
        refine w_iload rfl ?_
        refine w_iload rfl ?_
        refine w_cge (by omega) (fun h21 => ?_) (fun h21 => ?_)
        · skip
          refine w_step rfl ?_
          refine w_push kc_0 ?_
          refine w_goto ?_
          refine w_step rfl ?_
          refine w_add ?_
          refine w_istore (lv' := [some (.ref 68), some (.int (jI n)), some (.int (jI z1)), some (.int (jI (2 * z10))), some (.int (jI (g + 0))), some (.int (jI k))]) rfl ?_
          refine w_iload rfl ?_
          refine w_iload rfl ?_
          refine w_push kc_2 ?_
          refine w_iload rfl ?_
          refine w_mul ?_
          refine w_push kc_1 ?_
          refine w_add ?_
          refine w_cne (by omega) (fun h22 => ?_) (fun h22 => ?_)
          · skip
            refine w_step rfl ?_
            refine w_push kc_0 ?_
            refine w_goto ?_
            refine w_step rfl ?_
            refine w_add ?_
            refine w_istore (lv' := [some (.ref 68), some (.int (jI n)), some (.int (jI z1)), some (.int (jI (2 * z10))), some (.int (jI ((g + 0) + 0))), some (.int (jI k))]) rfl ?_
            refine w_iinc (lv' := [some (.ref 68), some (.int (jI n)), some (.int (jI z1)), some (.int (jI (2 * z10))), some (.int (jI ((g + 0) + 0))), some (.int (jI (k + 1)))]) kc_1 rfl rfl ?_
            refine w_goto ?_
            exact ih3 _ ((g + 0) + 0) (k + 1) t20 ok20 fr20 wf20 (by omega) (by omega) (by omega) (by omega) e7 ew e91 br2 (by omega) (by first | exact ok_x (ok_x i3_9 ⟨by omega, by omega⟩) ⟨by omega, by omega⟩ | (simp only [Int.add_zero]; exact ok_x i3_9 ⟨by omega, by omega⟩) | (simp only [Int.add_zero]; exact i3_9) | omega) (by (try simp only [Int.add_zero]); omega) (by omega) (by omega)
          refine w_iload rfl ?_
          refine w_iload rfl ?_
          refine w_cge (by omega) (fun h23 => ?_) (fun h23 => ?_)
          · skip
            refine w_step rfl ?_
            refine w_push kc_0 ?_
            refine w_goto ?_
            refine w_step rfl ?_
            refine w_add ?_
            refine w_istore (lv' := [some (.ref 68), some (.int (jI n)), some (.int (jI z1)), some (.int (jI (2 * z10))), some (.int (jI ((g + 0) + 0))), some (.int (jI k))]) rfl ?_
            refine w_iinc (lv' := [some (.ref 68), some (.int (jI n)), some (.int (jI z1)), some (.int (jI (2 * z10))), some (.int (jI ((g + 0) + 0))), some (.int (jI (k + 1)))]) kc_1 rfl rfl ?_
            refine w_goto ?_
            exact ih3 _ ((g + 0) + 0) (k + 1) t20 ok20 fr20 wf20 (by omega) (by omega) (by omega) (by omega) e7 ew e91 br2 (by omega) (by first | exact ok_x (ok_x i3_9 ⟨by omega, by omega⟩) ⟨by omega, by omega⟩ | (simp only [Int.add_zero]; exact ok_x i3_9 ⟨by omega, by omega⟩) | (simp only [Int.add_zero]; exact i3_9) | omega) (by (try simp only [Int.add_zero]); omega) (by omega) (by omega)
          refine w_aload rfl ?_
          refine w_getR (g_68_34 _) ?_
          refine w_iload rfl ?_
          refine w_iald (i := ((g + 0)).toNat) (ai_91 _) (by omega) (by omega) (ae_91 _) ok20 (fun z24 hz24 hl24 hh24 => ?_)
          have e3 : z24 = tA t 91 ((g + 0)).toNat := by rw [hz24, e91]
          refine w_aload rfl ?_
          refine w_callV0I (oj_68 _).choose_spec rfl (e_X9_matches ok20 (AW_no br2.2.1)) ?_
          rintro z25 t25 ⟨rfl, hp25_0, hp25_1, hp25_2⟩
          have ed3 : z25 = dueF (pcA t 70) (mtA t 70) (g + 1) := by
            unfold dueF
            rw [if_neg (by omega), show ((g + 1) / 2 + 1).toNat = (k + 1).toNat by omega, hp25_2]
            exact bq_mt br2 hn70
          refine w_cne (by omega) (fun h26 => ?_) (fun h26 => ?_)
          · skip
            refine w_step rfl ?_
            refine w_push kc_0 ?_
            refine w_goto ?_
            refine w_step rfl ?_
            refine w_add ?_
            refine w_istore (lv' := [some (.ref 68), some (.int (jI n)), some (.int (jI z1)), some (.int (jI (2 * z10))), some (.int (jI ((g + 0) + 0))), some (.int (jI k))]) rfl ?_
            refine w_iinc (lv' := [some (.ref 68), some (.int (jI n)), some (.int (jI z1)), some (.int (jI (2 * z10))), some (.int (jI ((g + 0) + 0))), some (.int (jI (k + 1)))]) kc_1 rfl rfl ?_
            refine w_goto ?_
            exact ih3 _ ((g + 0) + 0) (k + 1) t20 ok20 fr20 wf20 (by omega) (by omega) (by omega) (by omega) e7 ew e91 br2 (by omega) (by first | exact ok_x (ok_x i3_9 ⟨by omega, by omega⟩) ⟨by omega, by omega⟩ | (simp only [Int.add_zero]; exact ok_x i3_9 ⟨by omega, by omega⟩) | (simp only [Int.add_zero]; exact i3_9) | omega) (by (try simp only [Int.add_zero]); omega) (by omega) (by omega)
          refine w_push kc_1 ?_
          refine w_goto ?_
          refine w_step rfl ?_
          refine w_add ?_
          refine w_istore (lv' := [some (.ref 68), some (.int (jI n)), some (.int (jI z1)), some (.int (jI (2 * z10))), some (.int (jI ((g + 0) + 1))), some (.int (jI k))]) rfl ?_
          refine w_iinc (lv' := [some (.ref 68), some (.int (jI n)), some (.int (jI z1)), some (.int (jI (2 * z10))), some (.int (jI ((g + 0) + 1))), some (.int (jI (k + 1)))]) kc_1 rfl rfl ?_
          refine w_goto ?_
          exact ih3 _ ((g + 0) + 1) (k + 1) t20 ok20 fr20 wf20 (by omega) (by omega) (by omega) (by omega) e7 ew e91 br2 (by omega) (by first | exact ok_x (ok_x i3_9 ⟨by omega, by omega⟩) ⟨by omega, by omega⟩ | (simp only [Int.add_zero]; exact ok_x i3_9 ⟨by omega, by omega⟩) | (simp only [Int.add_zero]; exact i3_9) | omega) (by (try simp only [Int.add_zero]); omega) (by omega) (by omega)
        refine w_aload rfl ?_
        refine w_getR (g_68_34 _) ?_
        refine w_iload rfl ?_
        refine w_iald (i := (g).toNat) (ai_91 _) (by omega) (by omega) (ae_91 _) ok20 (fun z27 hz27 hl27 hh27 => ?_)
        have e1 : z27 = tA t 91 g.toNat := by rw [hz27, e91]
        refine w_aload rfl ?_
        refine w_callV0I (oj_68 _).choose_spec rfl (e_X9_picture ok20 wf20 br2.2.2.2.2.2.2.2 (AW_no br2.2.1)) ?_
        rintro z28 t28 ⟨ok28, fq28, hp28_0, hp28_1, hp28_2⟩
        have fr28 := fr20.then fq28 (by simp)
        have wf28 := wf20.fr fq28 (by simp)
        have e7 : ∀ i : Nat, i < 1461 → tA t28 71 i = tA t 69 i := fun i hi => (fq28.2.1 71 (by simp) i).trans (e7 i hi)
        have ew : tI t28 68 35 = 0 := (fq28.1 68 35 (by simp)).trans ew
        have e91 : ∀ i, tA t28 91 i = tA t 91 i := fun i => (fq28.2.1 91 (by simp) i).trans (e91 i)
        have ed1 : z28 = dueF (pcA t 70) (mtA t 70) g := by
          unfold dueF
          rw [if_pos (by omega), show (g / 2 + 1).toNat = (k + 1).toNat by omega, hp28_2]
          exact bq_pc br2 okd (rt_u okd) hn70
        have br2 := bq_f br2 fq28 (by simp) (by simp)
        refine w_cne (by omega) (fun h29 => ?_) (fun h29 => ?_)
        · skip
          refine w_step rfl ?_
          refine w_push kc_0 ?_
          refine w_goto ?_
          refine w_step rfl ?_
          refine w_add ?_
          refine w_istore (lv' := [some (.ref 68), some (.int (jI n)), some (.int (jI z1)), some (.int (jI (2 * z10))), some (.int (jI (g + 0))), some (.int (jI k))]) rfl ?_
          refine w_iload rfl ?_
          refine w_iload rfl ?_
          refine w_push kc_2 ?_
          refine w_iload rfl ?_
          refine w_mul ?_
          refine w_push kc_1 ?_
          refine w_add ?_
          refine w_cne (by omega) (fun h30 => ?_) (fun h30 => ?_)
          · skip
            refine w_step rfl ?_
            refine w_push kc_0 ?_
            refine w_goto ?_
            refine w_step rfl ?_
            refine w_add ?_
            refine w_istore (lv' := [some (.ref 68), some (.int (jI n)), some (.int (jI z1)), some (.int (jI (2 * z10))), some (.int (jI ((g + 0) + 0))), some (.int (jI k))]) rfl ?_
            refine w_iinc (lv' := [some (.ref 68), some (.int (jI n)), some (.int (jI z1)), some (.int (jI (2 * z10))), some (.int (jI ((g + 0) + 0))), some (.int (jI (k + 1)))]) kc_1 rfl rfl ?_
            refine w_goto ?_
            exact ih3 _ ((g + 0) + 0) (k + 1) t28 ok28 fr28 wf28 (by omega) (by omega) (by omega) (by omega) e7 ew e91 br2 (by omega) (by first | exact ok_x (ok_x i3_9 ⟨by omega, by omega⟩) ⟨by omega, by omega⟩ | (simp only [Int.add_zero]; exact ok_x i3_9 ⟨by omega, by omega⟩) | (simp only [Int.add_zero]; exact i3_9) | omega) (by (try simp only [Int.add_zero]); omega) (by omega) (by omega)
          refine w_iload rfl ?_
          refine w_iload rfl ?_
          refine w_cge (by omega) (fun h31 => ?_) (fun h31 => ?_)
          · skip
            refine w_step rfl ?_
            refine w_push kc_0 ?_
            refine w_goto ?_
            refine w_step rfl ?_
            refine w_add ?_
            refine w_istore (lv' := [some (.ref 68), some (.int (jI n)), some (.int (jI z1)), some (.int (jI (2 * z10))), some (.int (jI ((g + 0) + 0))), some (.int (jI k))]) rfl ?_
            refine w_iinc (lv' := [some (.ref 68), some (.int (jI n)), some (.int (jI z1)), some (.int (jI (2 * z10))), some (.int (jI ((g + 0) + 0))), some (.int (jI (k + 1)))]) kc_1 rfl rfl ?_
            refine w_goto ?_
            exact ih3 _ ((g + 0) + 0) (k + 1) t28 ok28 fr28 wf28 (by omega) (by omega) (by omega) (by omega) e7 ew e91 br2 (by omega) (by first | exact ok_x (ok_x i3_9 ⟨by omega, by omega⟩) ⟨by omega, by omega⟩ | (simp only [Int.add_zero]; exact ok_x i3_9 ⟨by omega, by omega⟩) | (simp only [Int.add_zero]; exact i3_9) | omega) (by (try simp only [Int.add_zero]); omega) (by omega) (by omega)
          refine w_aload rfl ?_
          refine w_getR (g_68_34 _) ?_
          refine w_iload rfl ?_
          refine w_iald (i := ((g + 0)).toNat) (ai_91 _) (by omega) (by omega) (ae_91 _) ok28 (fun z32 hz32 hl32 hh32 => ?_)
          have e3 : z32 = tA t 91 ((g + 0)).toNat := by rw [hz32, e91]
          refine w_aload rfl ?_
          refine w_callV0I (oj_68 _).choose_spec rfl (e_X9_matches ok28 (AW_no br2.2.1)) ?_
          rintro z33 t33 ⟨rfl, hp33_0, hp33_1, hp33_2⟩
          have ed3 : z33 = dueF (pcA t 70) (mtA t 70) (g + 1) := by
            unfold dueF
            rw [if_neg (by omega), show ((g + 1) / 2 + 1).toNat = (k + 1).toNat by omega, hp33_2]
            exact bq_mt br2 hn70
          refine w_cne (by omega) (fun h34 => ?_) (fun h34 => ?_)
          · skip
            refine w_step rfl ?_
            refine w_push kc_0 ?_
            refine w_goto ?_
            refine w_step rfl ?_
            refine w_add ?_
            refine w_istore (lv' := [some (.ref 68), some (.int (jI n)), some (.int (jI z1)), some (.int (jI (2 * z10))), some (.int (jI ((g + 0) + 0))), some (.int (jI k))]) rfl ?_
            refine w_iinc (lv' := [some (.ref 68), some (.int (jI n)), some (.int (jI z1)), some (.int (jI (2 * z10))), some (.int (jI ((g + 0) + 0))), some (.int (jI (k + 1)))]) kc_1 rfl rfl ?_
            refine w_goto ?_
            exact ih3 _ ((g + 0) + 0) (k + 1) t28 ok28 fr28 wf28 (by omega) (by omega) (by omega) (by omega) e7 ew e91 br2 (by omega) (by first | exact ok_x (ok_x i3_9 ⟨by omega, by omega⟩) ⟨by omega, by omega⟩ | (simp only [Int.add_zero]; exact ok_x i3_9 ⟨by omega, by omega⟩) | (simp only [Int.add_zero]; exact i3_9) | omega) (by (try simp only [Int.add_zero]); omega) (by omega) (by omega)
          refine w_push kc_1 ?_
          refine w_goto ?_
          refine w_step rfl ?_
          refine w_add ?_
          refine w_istore (lv' := [some (.ref 68), some (.int (jI n)), some (.int (jI z1)), some (.int (jI (2 * z10))), some (.int (jI ((g + 0) + 1))), some (.int (jI k))]) rfl ?_
          refine w_iinc (lv' := [some (.ref 68), some (.int (jI n)), some (.int (jI z1)), some (.int (jI (2 * z10))), some (.int (jI ((g + 0) + 1))), some (.int (jI (k + 1)))]) kc_1 rfl rfl ?_
          refine w_goto ?_
          exact ih3 _ ((g + 0) + 1) (k + 1) t28 ok28 fr28 wf28 (by omega) (by omega) (by omega) (by omega) e7 ew e91 br2 (by omega) (by first | exact ok_x (ok_x i3_9 ⟨by omega, by omega⟩) ⟨by omega, by omega⟩ | (simp only [Int.add_zero]; exact ok_x i3_9 ⟨by omega, by omega⟩) | (simp only [Int.add_zero]; exact i3_9) | omega) (by (try simp only [Int.add_zero]); omega) (by omega) (by omega)
        refine w_push kc_1 ?_
        refine w_goto ?_
        refine w_step rfl ?_
        refine w_add ?_
        refine w_istore (lv' := [some (.ref 68), some (.int (jI n)), some (.int (jI z1)), some (.int (jI (2 * z10))), some (.int (jI (g + 1))), some (.int (jI k))]) rfl ?_
        refine w_iload rfl ?_
        refine w_iload rfl ?_
        refine w_push kc_2 ?_
        refine w_iload rfl ?_
        refine w_mul ?_
        refine w_push kc_1 ?_
        refine w_add ?_
        refine w_cne (by omega) (fun h35 => ?_) (fun h35 => ?_)
        · skip
          refine w_step rfl ?_
          refine w_push kc_0 ?_
          refine w_goto ?_
          refine w_step rfl ?_
          refine w_add ?_
          refine w_istore (lv' := [some (.ref 68), some (.int (jI n)), some (.int (jI z1)), some (.int (jI (2 * z10))), some (.int (jI ((g + 1) + 0))), some (.int (jI k))]) rfl ?_
          refine w_iinc (lv' := [some (.ref 68), some (.int (jI n)), some (.int (jI z1)), some (.int (jI (2 * z10))), some (.int (jI ((g + 1) + 0))), some (.int (jI (k + 1)))]) kc_1 rfl rfl ?_
          refine w_goto ?_
          exact ih3 _ ((g + 1) + 0) (k + 1) t28 ok28 fr28 wf28 (by omega) (by omega) (by omega) (by omega) e7 ew e91 br2 (by omega) (by first | exact ok_x (ok_x i3_9 ⟨by omega, by omega⟩) ⟨by omega, by omega⟩ | (simp only [Int.add_zero]; exact ok_x i3_9 ⟨by omega, by omega⟩) | (simp only [Int.add_zero]; exact i3_9) | omega) (by (try simp only [Int.add_zero]); omega) (by omega) (by omega)
        refine w_iload rfl ?_
        refine w_iload rfl ?_
        refine w_cge (by omega) (fun h36 => ?_) (fun h36 => ?_)
        · skip
          refine w_step rfl ?_
          refine w_push kc_0 ?_
          refine w_goto ?_
          refine w_step rfl ?_
          refine w_add ?_
          refine w_istore (lv' := [some (.ref 68), some (.int (jI n)), some (.int (jI z1)), some (.int (jI (2 * z10))), some (.int (jI ((g + 1) + 0))), some (.int (jI k))]) rfl ?_
          refine w_iinc (lv' := [some (.ref 68), some (.int (jI n)), some (.int (jI z1)), some (.int (jI (2 * z10))), some (.int (jI ((g + 1) + 0))), some (.int (jI (k + 1)))]) kc_1 rfl rfl ?_
          refine w_goto ?_
          exact ih3 _ ((g + 1) + 0) (k + 1) t28 ok28 fr28 wf28 (by omega) (by omega) (by omega) (by omega) e7 ew e91 br2 (by omega) (by first | exact ok_x (ok_x i3_9 ⟨by omega, by omega⟩) ⟨by omega, by omega⟩ | (simp only [Int.add_zero]; exact ok_x i3_9 ⟨by omega, by omega⟩) | (simp only [Int.add_zero]; exact i3_9) | omega) (by (try simp only [Int.add_zero]); omega) (by omega) (by omega)
        refine w_aload rfl ?_
        refine w_getR (g_68_34 _) ?_
        refine w_iload rfl ?_
        refine w_iald (i := ((g + 1)).toNat) (ai_91 _) (by omega) (by omega) (ae_91 _) ok28 (fun z37 hz37 hl37 hh37 => ?_)
        have e3 : z37 = tA t 91 ((g + 1)).toNat := by rw [hz37, e91]
        refine w_aload rfl ?_
        refine w_callV0I (oj_68 _).choose_spec rfl (e_X9_matches ok28 (AW_no br2.2.1)) ?_
        rintro z38 t38 ⟨rfl, hp38_0, hp38_1, hp38_2⟩
        have ed3 : z38 = dueF (pcA t 70) (mtA t 70) (g + 1) := by
          unfold dueF
          rw [if_neg (by omega), show ((g + 1) / 2 + 1).toNat = (k + 1).toNat by omega, hp38_2]
          exact bq_mt br2 hn70
        refine w_cne (by omega) (fun h39 => ?_) (fun h39 => ?_)
        · skip
          refine w_step rfl ?_
          refine w_push kc_0 ?_
          refine w_goto ?_
          refine w_step rfl ?_
          refine w_add ?_
          refine w_istore (lv' := [some (.ref 68), some (.int (jI n)), some (.int (jI z1)), some (.int (jI (2 * z10))), some (.int (jI ((g + 1) + 0))), some (.int (jI k))]) rfl ?_
          refine w_iinc (lv' := [some (.ref 68), some (.int (jI n)), some (.int (jI z1)), some (.int (jI (2 * z10))), some (.int (jI ((g + 1) + 0))), some (.int (jI (k + 1)))]) kc_1 rfl rfl ?_
          refine w_goto ?_
          exact ih3 _ ((g + 1) + 0) (k + 1) t28 ok28 fr28 wf28 (by omega) (by omega) (by omega) (by omega) e7 ew e91 br2 (by omega) (by first | exact ok_x (ok_x i3_9 ⟨by omega, by omega⟩) ⟨by omega, by omega⟩ | (simp only [Int.add_zero]; exact ok_x i3_9 ⟨by omega, by omega⟩) | (simp only [Int.add_zero]; exact i3_9) | omega) (by (try simp only [Int.add_zero]); omega) (by omega) (by omega)
        refine w_push kc_1 ?_
        refine w_goto ?_
        refine w_step rfl ?_
        refine w_add ?_
        refine w_istore (lv' := [some (.ref 68), some (.int (jI n)), some (.int (jI z1)), some (.int (jI (2 * z10))), some (.int (jI ((g + 1) + 1))), some (.int (jI k))]) rfl ?_
        refine w_iinc (lv' := [some (.ref 68), some (.int (jI n)), some (.int (jI z1)), some (.int (jI (2 * z10))), some (.int (jI ((g + 1) + 1))), some (.int (jI (k + 1)))]) kc_1 rfl rfl ?_
        refine w_goto ?_
        exact ih3 _ ((g + 1) + 1) (k + 1) t28 ok28 fr28 wf28 (by omega) (by omega) (by omega) (by omega) e7 ew e91 br2 (by omega) (by first | exact ok_x (ok_x i3_9 ⟨by omega, by omega⟩) ⟨by omega, by omega⟩ | (simp only [Int.add_zero]; exact ok_x i3_9 ⟨by omega, by omega⟩) | (simp only [Int.add_zero]; exact i3_9) | omega) (by (try simp only [Int.add_zero]); omega) (by omega) (by omega)
    exact key3 32 _ 0 0 t7 ok7 fr7 wf7 (by omega) (by omega) (by omega) (by omega) e7 ew e91 br (by omega) (fun i h1 h2 => by omega) (Or.inl rfl) (by omega) (by omega)
  refine w_push kc_m1000000002 ?_
  refine w_retI rfl ?_
  exact ⟨ok2, fr2, ew, (by first | exact pf | exact fun i _ => e6 69 i), (by first | (exact Or.inl ⟨by omega, by first | omega | (subst_vars; rfl)⟩) | (exact Or.inr (Or.inl ⟨by omega, by omega, by first | omega | (subst_vars; rfl)⟩)) | (exact Or.inr (Or.inr (⟨by omega, by omega, by rw [← ew8]; rw [← ew8] at i3_9 i3_10; first | exact ⟨g, ⟨by omega, by omega, i3_9, by omega⟩, by rw [if_pos ⟨by omega, by omega⟩]⟩ | exact ⟨g, ⟨by omega, by omega, i3_9, by omega⟩, by rw [if_neg (by omega)]⟩⟩))))⟩
