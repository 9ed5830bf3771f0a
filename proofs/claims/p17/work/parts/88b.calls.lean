theorem tn_dk {t u v : TS} {s k : Int} (h : DK t 1 (tI t 1 10)) (hs : 0 ≤ s) (e : u = uA t 2 s.toNat k) (f : Fr [(1 + 8, 100)] u v) (d : DNp u v 1 s.toNat 4) : DK v 1 (tI t 1 10) := by
  have kA : ∀ c i, ¬ (c = 2 ∧ i = s.toNat) → tA u c i = tA t c i := fun c i q => by rw [e, tA_uA, if_neg q]
  have dk : ∀ s2 r w : Nat, dkC v 1 s2 r w = dkC u 1 s2 r w := fun s2 r w => dkC_fr f (by simp) (by simp) (by simp) (by simp) (by simp) (by simp) s2 r w
  intro s2 r w h1 h2 h3
  by_cases q : s2 = s.toNat
  · subst q
    rw [d.1 r w h2 h3, dk]
  · rw [d.2 _ (by omega), dk, kA _ _ (by omega), h s2 r w h1 h2 h3]
    exact (dkC_mv (fun i => kA _ _ (by omega)) (by rw [e]; rfl) (fun i => by rw [e]; rfl) (by rw [e]; rfl) (kA _ _ (by omega)) (kA _ _ (by omega)) (kA _ _ (by omega)) r w).symm
theorem pu_1 {t u v : TS} {s p x : Int} (m4 : tA u (1 + 4) = upF (tA t (1 + 4)) s.toNat p) (f : Fr [(1 + 4, 100), (1 + 6, 100)] t u) (w : v = uA u 6 s.toNat x) : CP v 1 = (upF (tA t 5) s.toNat p, upF (tA t 6) s.toNat x) := by
  have e6 := funext (f.2.1 6 (by simp))
  unfold CP
  congr 1
  · rw [w]
    funext i
    rw [tA_uA, if_neg (by omega)]
    exact congrFun m4 i
  · rw [w]
    funext i
    rw [tA_uA]
    unfold upF
    by_cases q : i = s.toNat
    · rw [if_pos ⟨rfl, q⟩, if_pos q]
    · rw [if_neg (fun k => q k.2), if_neg q]
      exact congrFun e6 i
theorem pu_2 {t u v : TS} {s p x : Int} (h : HCt t 1) (m4 : tA u (1 + 4) = upF (tA t (1 + 4)) s.toNat p) (m6 : tA u (1 + 6) = mvH (tA t (1 + 6)) (tA t (1 + 4)) s.toNat p) (f : Fr [(1 + 4, 100), (1 + 6, 100)] t u) (w : v = uA u 6 s.toNat x) (hs : 0 ≤ s ∧ s ≤ tI t 1 10 - 1) (hp : 0 ≤ p) (hh : tA t 7 p.toNat = -1 ∨ tA t 7 p.toNat = s) : HCt v 1 := by
  have e4 : tA v (1 + 4) = tA u (1 + 4) := by rw [w]; funext i; rw [tA_uA, if_neg (by omega)]
  have e6 : tA v (1 + 6) = tA u (1 + 6) := by rw [w]; funext i; rw [tA_uA, if_neg (by omega)]
  have e10 : tI v 1 10 = tI t 1 10 := by rw [w, tI_uA]; exact f.1 _ _ (by simp)
  unfold HCt
  rw [e4, e6, m4, m6, e10]
  refine HC.mv h (by omega) hp (fun _ => ?_)
  rcases hh with q | q
  · exact Or.inl q
  · exact Or.inr (by rw [show 1 + 6 = 7 from rfl, q]; omega)
theorem pu_3 {t u : TS} {s : Int} (m4 : tA u (1 + 4) = upF (tA t (1 + 4)) s.toNat 12) (f : Fr [(1 + 4, 100), (1 + 6, 100)] t u) : CP u 1 = (upF (tA t 5) s.toNat 12, tA t 6) := by
  have e6 := funext (f.2.1 6 (by simp))
  unfold CP
  rw [m4]
  congr 1
theorem pu_4 {t u : TS} {s : Int} (h : HCt t 1) (m4 : tA u (1 + 4) = upF (tA t (1 + 4)) s.toNat 12) (m6 : tA u (1 + 6) = mvH (tA t (1 + 6)) (tA t (1 + 4)) s.toNat 12) (f : Fr [(1 + 4, 100), (1 + 6, 100)] t u) (hs : 0 ≤ s ∧ s ≤ tI t 1 10 - 1) : HCt u 1 := by
  have e10 : tI u 1 10 = tI t 1 10 := f.1 _ _ (by simp)
  unfold HCt
  rw [m4, m6, e10]
  exact HC.mv h (by omega) (by decide) (fun e => absurd e (by decide))
theorem dy_cn {t u : TS} {k : Nat} (g : GLp t u 1 (dysF (tI t 1 10).toNat (OC t 1) (tI t 1 12) (tI t 1 14) k (CP t 1))) : cnH (tA u (1 + 6)) 12 = cnX t 1 k := by
  obtain ⟨g1, g2, g3, g4⟩ := g
  rw [cnC g2, g4, g1]
  rfl
set_option maxRecDepth 100000 in
set_option maxHeartbeats 4000000 in
theorem e_X8_stone {d : Nat} {t : TS} {k l r : Int}  (ok : OK t) (q0 : GD t) (q1 : -2147483648 ≤ k) (q2 : k ≤ 2147483647) (q3 : -2147483648 ≤ l) (q4 : l ≤ 2147483647) (q5 : -2147483648 ≤ r) (q6 : r ≤ 2147483647) : CI (EX FU (d + 7)) 75 [.ref 0, .int (jI k), .int (jI l), .int (jI r)] (mk t) (fun z t' => OK t' ∧ Fr [(1, 10), (2, 100), (3, 100), (4, 100), (5, 100), (6, 100), (9, 100)] t t' ∧ (((¬ (0 ≤ k ∧ k ≤ 5 ∧ 0 ≤ l ∧ l ≤ 6 ∧ 0 ≤ r ∧ r ≤ 6)) ∧ z = (-1000000001) ∧ t' = t) ∨ ((0 ≤ k ∧ k ≤ 5 ∧ 0 ≤ l ∧ l ≤ 6 ∧ 0 ≤ r ∧ r ≤ 6) ∧ (tI t 1 10 = 12) ∧ z = (-1000000003) ∧ t' = t) ∨ ((0 ≤ k ∧ k ≤ 5 ∧ 0 ≤ l ∧ l ≤ 6 ∧ 0 ≤ r ∧ r ≤ 6) ∧ (tI t 1 10 < 12) ∧ z = tI t 1 10 ∧ (tI t' 1 10 = tI t 1 10 + 1) ∧ (∀ i, tA t' 2 i = if i = (tI t 1 10).toNat then k else tA t 2 i) ∧ (∀ i, tA t' 3 i = if i = (tI t 1 10).toNat then l else tA t 3 i) ∧ (∀ i, tA t' 4 i = if i = (tI t 1 10).toNat then r else tA t 4 i) ∧ (ASp t t' 1)))) := by
  refine CI_ent (d := d + 6) (Bk := bX8_stone) (nL := 4) rfl rfl rfl (Nat.le_of_ble_eq_true rfl) ?_
  show Rn _ 1000000 0 [some (.ref 0), some (.int (jI k)), some (.int (jI l)), some (.int (jI r))] [] _ _
  have fr : Fr [(1, 10), (2, 100), (3, 100), (4, 100), (5, 100), (6, 100), (9, 100)] t t := Fr.rf _ _
  have hn0 := (ok.f fe_1_10).1
  have hn1 := (ok.f fe_1_10).2
  refine w_step rfl ?_
  refine w_iload rfl ?_
  refine w_push kc_0 ?_
  refine w_push kc_5 ?_
  refine w_callS3I rfl (c_X8_within ok (by omega) (by omega) (by omega) (by omega) (by omega) (by omega)) ?_
  rintro z1 t1 ⟨rfl, hp1_0⟩
  rcases hp1_0 with ⟨rfl, hp1_0⟩ | ⟨rfl, hp1_0⟩
  · skip
    refine w_ieq (by omega) (fun _ => ?_) (fun h => absurd (by omega) h)
    refine w_step rfl ?_
    refine w_push kc_m1000000001 ?_
    refine w_retI rfl ?_
    exact ⟨ok, fr, (by first | (exact Or.inl ⟨by omega, by first | omega | (subst_vars; rfl), rfl⟩) | (exact Or.inr (Or.inl ⟨by omega, by omega, by first | omega | (subst_vars; rfl), rfl⟩)) | (exact Or.inr (Or.inr (⟨by omega, by omega, by first | omega | (subst_vars; rfl), e1, e2, e3, e4, e5⟩))))⟩
  refine w_ieq (by omega) (fun h => absurd h (by omega)) (fun _ => ?_)
  refine w_iload rfl ?_
  refine w_push kc_0 ?_
  refine w_push kc_6 ?_
  refine w_callS3I rfl (c_X8_within ok (by omega) (by omega) (by omega) (by omega) (by omega) (by omega)) ?_
  rintro z2 t2 ⟨rfl, hp2_0⟩
  rcases hp2_0 with ⟨rfl, hp2_0⟩ | ⟨rfl, hp2_0⟩
  · skip
    refine w_ieq (by omega) (fun _ => ?_) (fun h => absurd (by omega) h)
    refine w_step rfl ?_
    refine w_push kc_m1000000001 ?_
    refine w_retI rfl ?_
    exact ⟨ok, fr, (by first | (exact Or.inl ⟨by omega, by first | omega | (subst_vars; rfl), rfl⟩) | (exact Or.inr (Or.inl ⟨by omega, by omega, by first | omega | (subst_vars; rfl), rfl⟩)) | (exact Or.inr (Or.inr (⟨by omega, by omega, by first | omega | (subst_vars; rfl), e1, e2, e3, e4, e5⟩))))⟩
  refine w_ieq (by omega) (fun h => absurd h (by omega)) (fun _ => ?_)
  refine w_iload rfl ?_
  refine w_push kc_0 ?_
  refine w_push kc_6 ?_
  refine w_callS3I rfl (c_X8_within ok (by omega) (by omega) (by omega) (by omega) (by omega) (by omega)) ?_
  rintro z3 t3 ⟨rfl, hp3_0⟩
  rcases hp3_0 with ⟨rfl, hp3_0⟩ | ⟨rfl, hp3_0⟩
  · skip
    refine w_ine (by omega) (fun h => absurd h (by omega)) (fun _ => ?_)
    refine w_goto ?_
    refine w_step rfl ?_
    refine w_push kc_m1000000001 ?_
    refine w_retI rfl ?_
    exact ⟨ok, fr, (by first | (exact Or.inl ⟨by omega, by first | omega | (subst_vars; rfl), rfl⟩) | (exact Or.inr (Or.inl ⟨by omega, by omega, by first | omega | (subst_vars; rfl), rfl⟩)) | (exact Or.inr (Or.inr (⟨by omega, by omega, by first | omega | (subst_vars; rfl), e1, e2, e3, e4, e5⟩))))⟩
  refine w_ine (by omega) (fun _ => ?_) (fun h => absurd (by omega) h)
  refine w_step rfl ?_
  refine w_aload rfl ?_
  refine w_getR (g_0_0 _) ?_
  refine w_getI (g_1_10 _) fe_1_10 ok (fun z4 hz4 hl4 hh4 => ?_)
  refine w_push kc_12 ?_
  refine w_clt (by omega) (fun h5 => ?_) (fun h5 => ?_)
  · skip
    refine w_step rfl ?_
    refine w_aload rfl ?_
    refine w_getR (g_0_0 _) ?_
    refine w_iload rfl ?_
    refine w_iload rfl ?_
    refine w_iload rfl ?_
    refine w_callV3I (oj_1 _).choose_spec rfl (e_X4_addStone isT1 ok (GD.fr q0 fr) (by omega) (by omega) (by omega) (by omega) (by omega) (by omega) (by omega)) ?_
    rintro z6 t6 ⟨ok6, fq6, hp6_0, hp6_1, hp6_2, hp6_3, hp6_4, hp6_5⟩
    have fr6 := fr.then fq6 (by simp)
    have e1 := hp6_1
    have e2 := hp6_2
    have e3 := hp6_3
    have e4 := hp6_4
    have e5 := hp6_5
    refine w_retI rfl ?_
    exact ⟨ok6, fr6, (by first | (exact Or.inl ⟨by omega, by first | omega | (subst_vars; rfl), rfl⟩) | (exact Or.inr (Or.inl ⟨by omega, by omega, by first | omega | (subst_vars; rfl), rfl⟩)) | (exact Or.inr (Or.inr (⟨by omega, by omega, by first | omega | (subst_vars; rfl), e1, e2, e3, e4, e5⟩))))⟩
  refine w_push kc_m1000000003 ?_
  refine w_retI rfl ?_
  exact ⟨ok, fr, (by first | (exact Or.inl ⟨by omega, by first | omega | (subst_vars; rfl), rfl⟩) | (exact Or.inr (Or.inl ⟨by omega, by omega, by first | omega | (subst_vars; rfl), rfl⟩)) | (exact Or.inr (Or.inr (⟨by omega, by omega, by first | omega | (subst_vars; rfl), e1, e2, e3, e4, e5⟩))))⟩
set_option maxRecDepth 100000 in
set_option maxHeartbeats 4000000 in
theorem e_X8_told {d : Nat} {t : TS} {s w : Int}  (ok : OK t) (q0 : -2147483648 ≤ s) (q1 : s ≤ 2147483647) (q2 : -2147483648 ≤ w) (q3 : w ≤ 2147483647) : CI (EX FU (d + 3)) 76 [.ref 0, .int (jI s), .int (jI w)] (mk t) (fun z t' => t = t' ∧ (((¬ (0 ≤ s ∧ s ≤ tI t 1 10 - 1) ∨ ¬ (0 ≤ w ∧ w ≤ 6)) ∧ z = (-1000000001)) ∨ ((0 ≤ s ∧ s ≤ tI t 1 10 - 1) ∧ (w = 0) ∧ z = tA t 2 s.toNat) ∨ ((0 ≤ s ∧ s ≤ tI t 1 10 - 1) ∧ (w = 1) ∧ z = tA t 3 s.toNat) ∨ ((0 ≤ s ∧ s ≤ tI t 1 10 - 1) ∧ (w = 2) ∧ z = tA t 4 s.toNat) ∨ ((0 ≤ s ∧ s ≤ tI t 1 10 - 1) ∧ (w = 3) ∧ z = tA t 5 s.toNat) ∨ ((0 ≤ s ∧ s ≤ tI t 1 10 - 1) ∧ (w = 4) ∧ z = tA t 6 s.toNat) ∨ ((0 ≤ s ∧ s ≤ tI t 1 10 - 1) ∧ (w = 5) ∧ z = hvF (tA t 2 s.toNat) (tA t 3 s.toNat) (tA t 4 s.toNat)) ∨ ((0 ≤ s ∧ s ≤ tI t 1 10 - 1) ∧ (w = 6) ∧ z = woF (tA t 2 s.toNat) (tA t 3 s.toNat) (tA t 4 s.toNat)))) := by
  refine CI_ent (d := d + 2) (Bk := bX8_told) (nL := 3) rfl rfl rfl (Nat.le_of_ble_eq_true rfl) ?_
  show Rn _ 1000000 0 [some (.ref 0), some (.int (jI s)), some (.int (jI w))] [] _ _
  have hn0 := (ok.f fe_1_10).1
  have hn1 := (ok.f fe_1_10).2
  refine w_step rfl ?_
  refine w_aload rfl ?_
  refine w_iload rfl ?_
  refine w_callV1I (oj_0 _).choose_spec rfl (c_X8_isStone ok (by omega) (by omega)) ?_
  rintro z1 t1 ⟨rfl, hp1_0⟩
  rcases hp1_0 with ⟨rfl, hp1_0⟩ | ⟨rfl, hp1_0⟩
  · skip
    refine w_ine (by omega) (fun h => absurd h (by omega)) (fun _ => ?_)
    refine w_push kc_m1000000001 ?_
    refine w_retI rfl ?_
    exact ⟨rfl, (by first | (exact Or.inl ⟨by omega, by first | omega | (subst_vars; rfl)⟩) | (exact Or.inr (Or.inl ⟨by omega, by omega, by first | omega | (subst_vars; rfl)⟩)) | (exact Or.inr (Or.inr (Or.inl ⟨by omega, by omega, by first | omega | (subst_vars; rfl)⟩))) | (exact Or.inr (Or.inr (Or.inr (Or.inl ⟨by omega, by omega, by first | omega | (subst_vars; rfl)⟩)))) | (exact Or.inr (Or.inr (Or.inr (Or.inr (Or.inl ⟨by omega, by omega, by first | omega | (subst_vars; rfl)⟩))))) | (exact Or.inr (Or.inr (Or.inr (Or.inr (Or.inr (Or.inl ⟨by omega, by omega, by first | omega | (subst_vars; rfl)⟩)))))) | (exact Or.inr (Or.inr (Or.inr (Or.inr (Or.inr (Or.inr (Or.inl ⟨by omega, by omega, by first | omega | (subst_vars; rfl)⟩))))))) | (exact Or.inr (Or.inr (Or.inr (Or.inr (Or.inr (Or.inr (Or.inr (⟨by omega, by omega, by first | omega | (subst_vars; rfl)⟩)))))))))⟩
  refine w_ine (by omega) (fun _ => ?_) (fun h => absurd (by omega) h)
  refine w_step rfl ?_
  refine w_iload rfl ?_
  have hs2 : w = 0 ∨ w = 1 ∨ w = 2 ∨ w = 3 ∨ w = 4 ∨ w = 5 ∨ w = 6 ∨ (w < 0 ∨ 0 + 7 ≤ w) := (by omega)
  rcases hs2 with hs2 | hs2 | hs2 | hs2 | hs2 | hs2 | hs2 | hs2
  · refine w_sw (n := 2) (tsw_at hs2 (by decide)) ?_
    refine w_step rfl ?_
    refine w_aload rfl ?_
    refine w_getR (g_0_0 _) ?_
    refine w_getR (g_1_0 _) ?_
    refine w_iload rfl ?_
    refine w_iald (i := (s).toNat) (ai_2 _) (by omega) (by omega) (ae_2 _) ok (fun z3 hz3 hl3 hh3 => ?_)
    refine w_retI rfl ?_
    exact ⟨rfl, (by first | (exact Or.inl ⟨by omega, by first | omega | (subst_vars; rfl)⟩) | (exact Or.inr (Or.inl ⟨by omega, by omega, by first | omega | (subst_vars; rfl)⟩)) | (exact Or.inr (Or.inr (Or.inl ⟨by omega, by omega, by first | omega | (subst_vars; rfl)⟩))) | (exact Or.inr (Or.inr (Or.inr (Or.inl ⟨by omega, by omega, by first | omega | (subst_vars; rfl)⟩)))) | (exact Or.inr (Or.inr (Or.inr (Or.inr (Or.inl ⟨by omega, by omega, by first | omega | (subst_vars; rfl)⟩))))) | (exact Or.inr (Or.inr (Or.inr (Or.inr (Or.inr (Or.inl ⟨by omega, by omega, by first | omega | (subst_vars; rfl)⟩)))))) | (exact Or.inr (Or.inr (Or.inr (Or.inr (Or.inr (Or.inr (Or.inl ⟨by omega, by omega, by first | omega | (subst_vars; rfl)⟩))))))) | (exact Or.inr (Or.inr (Or.inr (Or.inr (Or.inr (Or.inr (Or.inr (⟨by omega, by omega, by first | omega | (subst_vars; rfl)⟩)))))))))⟩
  · refine w_sw (n := 3) (tsw_at hs2 (by decide)) ?_
    refine w_step rfl ?_
    refine w_aload rfl ?_
    refine w_getR (g_0_0 _) ?_
    refine w_getR (g_1_1 _) ?_
    refine w_iload rfl ?_
    refine w_iald (i := (s).toNat) (ai_3 _) (by omega) (by omega) (ae_3 _) ok (fun z4 hz4 hl4 hh4 => ?_)
    refine w_retI rfl ?_
    exact ⟨rfl, (by first | (exact Or.inl ⟨by omega, by first | omega | (subst_vars; rfl)⟩) | (exact Or.inr (Or.inl ⟨by omega, by omega, by first | omega | (subst_vars; rfl)⟩)) | (exact Or.inr (Or.inr (Or.inl ⟨by omega, by omega, by first | omega | (subst_vars; rfl)⟩))) | (exact Or.inr (Or.inr (Or.inr (Or.inl ⟨by omega, by omega, by first | omega | (subst_vars; rfl)⟩)))) | (exact Or.inr (Or.inr (Or.inr (Or.inr (Or.inl ⟨by omega, by omega, by first | omega | (subst_vars; rfl)⟩))))) | (exact Or.inr (Or.inr (Or.inr (Or.inr (Or.inr (Or.inl ⟨by omega, by omega, by first | omega | (subst_vars; rfl)⟩)))))) | (exact Or.inr (Or.inr (Or.inr (Or.inr (Or.inr (Or.inr (Or.inl ⟨by omega, by omega, by first | omega | (subst_vars; rfl)⟩))))))) | (exact Or.inr (Or.inr (Or.inr (Or.inr (Or.inr (Or.inr (Or.inr (⟨by omega, by omega, by first | omega | (subst_vars; rfl)⟩)))))))))⟩
  · refine w_sw (n := 4) (tsw_at hs2 (by decide)) ?_
    refine w_step rfl ?_
    refine w_aload rfl ?_
    refine w_getR (g_0_0 _) ?_
    refine w_getR (g_1_2 _) ?_
    refine w_iload rfl ?_
    refine w_iald (i := (s).toNat) (ai_4 _) (by omega) (by omega) (ae_4 _) ok (fun z5 hz5 hl5 hh5 => ?_)
    refine w_retI rfl ?_
    exact ⟨rfl, (by first | (exact Or.inl ⟨by omega, by first | omega | (subst_vars; rfl)⟩) | (exact Or.inr (Or.inl ⟨by omega, by omega, by first | omega | (subst_vars; rfl)⟩)) | (exact Or.inr (Or.inr (Or.inl ⟨by omega, by omega, by first | omega | (subst_vars; rfl)⟩))) | (exact Or.inr (Or.inr (Or.inr (Or.inl ⟨by omega, by omega, by first | omega | (subst_vars; rfl)⟩)))) | (exact Or.inr (Or.inr (Or.inr (Or.inr (Or.inl ⟨by omega, by omega, by first | omega | (subst_vars; rfl)⟩))))) | (exact Or.inr (Or.inr (Or.inr (Or.inr (Or.inr (Or.inl ⟨by omega, by omega, by first | omega | (subst_vars; rfl)⟩)))))) | (exact Or.inr (Or.inr (Or.inr (Or.inr (Or.inr (Or.inr (Or.inl ⟨by omega, by omega, by first | omega | (subst_vars; rfl)⟩))))))) | (exact Or.inr (Or.inr (Or.inr (Or.inr (Or.inr (Or.inr (Or.inr (⟨by omega, by omega, by first | omega | (subst_vars; rfl)⟩)))))))))⟩
  · refine w_sw (n := 5) (tsw_at hs2 (by decide)) ?_
    refine w_step rfl ?_
    refine w_aload rfl ?_
    refine w_getR (g_0_0 _) ?_
    refine w_getR (g_1_3 _) ?_
    refine w_iload rfl ?_
    refine w_iald (i := (s).toNat) (ai_5 _) (by omega) (by omega) (ae_5 _) ok (fun z6 hz6 hl6 hh6 => ?_)
    refine w_retI rfl ?_
    exact ⟨rfl, (by first | (exact Or.inl ⟨by omega, by first | omega | (subst_vars; rfl)⟩) | (exact Or.inr (Or.inl ⟨by omega, by omega, by first | omega | (subst_vars; rfl)⟩)) | (exact Or.inr (Or.inr (Or.inl ⟨by omega, by omega, by first | omega | (subst_vars; rfl)⟩))) | (exact Or.inr (Or.inr (Or.inr (Or.inl ⟨by omega, by omega, by first | omega | (subst_vars; rfl)⟩)))) | (exact Or.inr (Or.inr (Or.inr (Or.inr (Or.inl ⟨by omega, by omega, by first | omega | (subst_vars; rfl)⟩))))) | (exact Or.inr (Or.inr (Or.inr (Or.inr (Or.inr (Or.inl ⟨by omega, by omega, by first | omega | (subst_vars; rfl)⟩)))))) | (exact Or.inr (Or.inr (Or.inr (Or.inr (Or.inr (Or.inr (Or.inl ⟨by omega, by omega, by first | omega | (subst_vars; rfl)⟩))))))) | (exact Or.inr (Or.inr (Or.inr (Or.inr (Or.inr (Or.inr (Or.inr (⟨by omega, by omega, by first | omega | (subst_vars; rfl)⟩)))))))))⟩
  · refine w_sw (n := 6) (tsw_at hs2 (by decide)) ?_
    refine w_step rfl ?_
    refine w_aload rfl ?_
    refine w_getR (g_0_0 _) ?_
    refine w_getR (g_1_4 _) ?_
    refine w_iload rfl ?_
    refine w_iald (i := (s).toNat) (ai_6 _) (by omega) (by omega) (ae_6 _) ok (fun z7 hz7 hl7 hh7 => ?_)
    refine w_retI rfl ?_
    exact ⟨rfl, (by first | (exact Or.inl ⟨by omega, by first | omega | (subst_vars; rfl)⟩) | (exact Or.inr (Or.inl ⟨by omega, by omega, by first | omega | (subst_vars; rfl)⟩)) | (exact Or.inr (Or.inr (Or.inl ⟨by omega, by omega, by first | omega | (subst_vars; rfl)⟩))) | (exact Or.inr (Or.inr (Or.inr (Or.inl ⟨by omega, by omega, by first | omega | (subst_vars; rfl)⟩)))) | (exact Or.inr (Or.inr (Or.inr (Or.inr (Or.inl ⟨by omega, by omega, by first | omega | (subst_vars; rfl)⟩))))) | (exact Or.inr (Or.inr (Or.inr (Or.inr (Or.inr (Or.inl ⟨by omega, by omega, by first | omega | (subst_vars; rfl)⟩)))))) | (exact Or.inr (Or.inr (Or.inr (Or.inr (Or.inr (Or.inr (Or.inl ⟨by omega, by omega, by first | omega | (subst_vars; rfl)⟩))))))) | (exact Or.inr (Or.inr (Or.inr (Or.inr (Or.inr (Or.inr (Or.inr (⟨by omega, by omega, by first | omega | (subst_vars; rfl)⟩)))))))))⟩
  · refine w_sw (n := 7) (tsw_at hs2 (by decide)) ?_
    refine w_step rfl ?_
    refine w_aload rfl ?_
    refine w_getR (g_0_0 _) ?_
    refine w_iload rfl ?_
    refine w_callV1I (oj_1 _).choose_spec rfl (c_X4_heavy isT1 ok (by omega) (by omega)) ?_
    rintro z8 t8 ⟨rfl, hp8_0, hp8_1, hp8_2⟩
    refine w_retI rfl ?_
    exact ⟨rfl, (by first | (exact Or.inl ⟨by omega, by first | omega | (subst_vars; rfl)⟩) | (exact Or.inr (Or.inl ⟨by omega, by omega, by first | omega | (subst_vars; rfl)⟩)) | (exact Or.inr (Or.inr (Or.inl ⟨by omega, by omega, by first | omega | (subst_vars; rfl)⟩))) | (exact Or.inr (Or.inr (Or.inr (Or.inl ⟨by omega, by omega, by first | omega | (subst_vars; rfl)⟩)))) | (exact Or.inr (Or.inr (Or.inr (Or.inr (Or.inl ⟨by omega, by omega, by first | omega | (subst_vars; rfl)⟩))))) | (exact Or.inr (Or.inr (Or.inr (Or.inr (Or.inr (Or.inl ⟨by omega, by omega, by first | omega | (subst_vars; rfl)⟩)))))) | (exact Or.inr (Or.inr (Or.inr (Or.inr (Or.inr (Or.inr (Or.inl ⟨by omega, by omega, by first | omega | (subst_vars; rfl)⟩))))))) | (exact Or.inr (Or.inr (Or.inr (Or.inr (Or.inr (Or.inr (Or.inr (⟨by omega, by omega, by first | omega | (subst_vars; rfl)⟩)))))))))⟩
  · refine w_sw (n := 8) (tsw_at hs2 (by decide)) ?_
    refine w_step rfl ?_
    refine w_aload rfl ?_
    refine w_getR (g_0_0 _) ?_
    refine w_getR (g_1_0 _) ?_
    refine w_iload rfl ?_
    refine w_iald (i := (s).toNat) (ai_2 _) (by omega) (by omega) (ae_2 _) ok (fun z9 hz9 hl9 hh9 => ?_)
    refine w_aload rfl ?_
    refine w_getR (g_0_0 _) ?_
    refine w_getR (g_1_1 _) ?_
    refine w_iload rfl ?_
    refine w_iald (i := (s).toNat) (ai_3 _) (by omega) (by omega) (ae_3 _) ok (fun z10 hz10 hl10 hh10 => ?_)
    refine w_aload rfl ?_
    refine w_getR (g_0_0 _) ?_
    refine w_getR (g_1_2 _) ?_
    refine w_iload rfl ?_
    refine w_iald (i := (s).toNat) (ai_4 _) (by omega) (by omega) (ae_4 _) ok (fun z11 hz11 hl11 hh11 => ?_)
    refine w_callS3I rfl (c_X0_worth ok (by omega) (by omega) (by omega) (by omega) (by omega) (by omega)) ?_
    rintro z12 t12 ⟨rfl, hp12_0, hp12_1, hp12_2⟩
    refine w_retI rfl ?_
    exact ⟨rfl, (by first | (exact Or.inl ⟨by omega, by first | omega | (subst_vars; rfl)⟩) | (exact Or.inr (Or.inl ⟨by omega, by omega, by first | omega | (subst_vars; rfl)⟩)) | (exact Or.inr (Or.inr (Or.inl ⟨by omega, by omega, by first | omega | (subst_vars; rfl)⟩))) | (exact Or.inr (Or.inr (Or.inr (Or.inl ⟨by omega, by omega, by first | omega | (subst_vars; rfl)⟩)))) | (exact Or.inr (Or.inr (Or.inr (Or.inr (Or.inl ⟨by omega, by omega, by first | omega | (subst_vars; rfl)⟩))))) | (exact Or.inr (Or.inr (Or.inr (Or.inr (Or.inr (Or.inl ⟨by omega, by omega, by first | omega | (subst_vars; rfl)⟩)))))) | (exact Or.inr (Or.inr (Or.inr (Or.inr (Or.inr (Or.inr (Or.inl ⟨by omega, by omega, by first | omega | (subst_vars; rfl)⟩))))))) | (exact Or.inr (Or.inr (Or.inr (Or.inr (Or.inr (Or.inr (Or.inr (⟨by omega, by omega, by first | omega | (subst_vars; rfl)⟩)))))))))⟩
  · refine w_sw (n := 9) (tsw_df (m := 7) rfl (by omega) (by omega)) ?_
    refine w_step rfl ?_
    refine w_push kc_m1000000001 ?_
    refine w_retI rfl ?_
    exact ⟨rfl, (by first | (exact Or.inl ⟨by omega, by first | omega | (subst_vars; rfl)⟩) | (exact Or.inr (Or.inl ⟨by omega, by omega, by first | omega | (subst_vars; rfl)⟩)) | (exact Or.inr (Or.inr (Or.inl ⟨by omega, by omega, by first | omega | (subst_vars; rfl)⟩))) | (exact Or.inr (Or.inr (Or.inr (Or.inl ⟨by omega, by omega, by first | omega | (subst_vars; rfl)⟩)))) | (exact Or.inr (Or.inr (Or.inr (Or.inr (Or.inl ⟨by omega, by omega, by first | omega | (subst_vars; rfl)⟩))))) | (exact Or.inr (Or.inr (Or.inr (Or.inr (Or.inr (Or.inl ⟨by omega, by omega, by first | omega | (subst_vars; rfl)⟩)))))) | (exact Or.inr (Or.inr (Or.inr (Or.inr (Or.inr (Or.inr (Or.inl ⟨by omega, by omega, by first | omega | (subst_vars; rfl)⟩))))))) | (exact Or.inr (Or.inr (Or.inr (Or.inr (Or.inr (Or.inr (Or.inr (⟨by omega, by omega, by first | omega | (subst_vars; rfl)⟩)))))))))⟩
set_option maxRecDepth 100000 in
set_option maxHeartbeats 4000000 in
theorem e_X8_off {d : Nat} {t : TS} {s p u : Int}  (ok : OK t) (q0 : -2147483648 ≤ s) (q1 : s ≤ 2147483647) (q2 : -2147483648 ≤ p) (q3 : p ≤ 2147483647) (q4 : -2147483648 ≤ u) (q5 : u ≤ 2147483647) : CI (EX FU (d + 3)) 77 [.ref 0, .int (jI s), .int (jI p), .int (jI u)] (mk t) (fun z t' => t = t' ∧ (((¬ (0 ≤ s ∧ s ≤ tI t 1 10 - 1 ∧ 0 ≤ p ∧ p ≤ 11 ∧ 0 ≤ u ∧ u ≤ 1)) ∧ z = (-1000000001)) ∨ ((0 ≤ s ∧ s ≤ tI t 1 10 - 1 ∧ 0 ≤ p ∧ p ≤ 11 ∧ 0 ≤ u ∧ u ≤ 1) ∧ z = OC t 1 s.toNat p.toNat u.toNat))) := by
  refine CI_ent (d := d + 2) (Bk := bX8_off) (nL := 4) rfl rfl rfl (Nat.le_of_ble_eq_true rfl) ?_
  show Rn _ 1000000 0 [some (.ref 0), some (.int (jI s)), some (.int (jI p)), some (.int (jI u))] [] _ _
  have hn0 := (ok.f fe_1_10).1
  have hn1 := (ok.f fe_1_10).2
  refine w_step rfl ?_
  refine w_aload rfl ?_
  refine w_iload rfl ?_
  refine w_callV1I (oj_0 _).choose_spec rfl (c_X8_isStone ok (by omega) (by omega)) ?_
  rintro z1 t1 ⟨rfl, hp1_0⟩
  rcases hp1_0 with ⟨rfl, hp1_0⟩ | ⟨rfl, hp1_0⟩
  · skip
    refine w_ieq (by omega) (fun _ => ?_) (fun h => absurd (by omega) h)
    refine w_step rfl ?_
    refine w_push kc_m1000000001 ?_
    refine w_retI rfl ?_
    exact ⟨rfl, (by first | (exact Or.inl ⟨by omega, by first | omega | (subst_vars; rfl)⟩) | (exact Or.inr (⟨by omega, by omega⟩)))⟩
  refine w_ieq (by omega) (fun h => absurd h (by omega)) (fun _ => ?_)
  refine w_iload rfl ?_
  refine w_callS1I rfl (c_X8_isPlace ok (by omega) (by omega)) ?_
  rintro z2 t2 ⟨rfl, hp2_0⟩
  rcases hp2_0 with ⟨rfl, hp2_0⟩ | ⟨rfl, hp2_0⟩
  · skip
    refine w_ieq (by omega) (fun _ => ?_) (fun h => absurd (by omega) h)
    refine w_step rfl ?_
    refine w_push kc_m1000000001 ?_
    refine w_retI rfl ?_
    exact ⟨rfl, (by first | (exact Or.inl ⟨by omega, by first | omega | (subst_vars; rfl)⟩) | (exact Or.inr (⟨by omega, by omega⟩)))⟩
  refine w_ieq (by omega) (fun h => absurd h (by omega)) (fun _ => ?_)
  refine w_iload rfl ?_
  refine w_push kc_0 ?_
  refine w_push kc_1 ?_
  refine w_callS3I rfl (c_X8_within ok (by omega) (by omega) (by omega) (by omega) (by omega) (by omega)) ?_
  rintro z3 t3 ⟨rfl, hp3_0⟩
  rcases hp3_0 with ⟨rfl, hp3_0⟩ | ⟨rfl, hp3_0⟩
  · skip
    refine w_ine (by omega) (fun h => absurd h (by omega)) (fun _ => ?_)
    refine w_goto ?_
    refine w_step rfl ?_
    refine w_push kc_m1000000001 ?_
    refine w_retI rfl ?_
    exact ⟨rfl, (by first | (exact Or.inl ⟨by omega, by first | omega | (subst_vars; rfl)⟩) | (exact Or.inr (⟨by omega, by omega⟩)))⟩
  refine w_ine (by omega) (fun _ => ?_) (fun h => absurd (by omega) h)
  refine w_step rfl ?_
  refine w_aload rfl ?_
  refine w_getR (g_0_0 _) ?_
  refine w_iload rfl ?_
  refine w_iload rfl ?_
  refine w_iload rfl ?_
  refine w_callV3I (oj_1 _).choose_spec rfl (e_X4_offAt isT1 ok (by omega) (by omega) (by omega) (by omega) (by omega) (by omega)) ?_
  rintro z4 t4 ⟨rfl, hp4_0, hp4_1, hp4_2⟩
  refine w_retI rfl ?_
  exact ⟨rfl, (by first | (exact Or.inl ⟨by omega, by first | omega | (subst_vars; rfl)⟩) | (exact Or.inr (⟨by omega, by omega⟩)))⟩
set_option maxRecDepth 100000 in
set_option maxHeartbeats 4000000 in
theorem e_X8_turns {d : Nat} {t : TS} {s k : Int}  (ok : OK t) (q0 : GD t) (q1 : DK t 1 (tI t 1 10)) (q2 : -2147483648 ≤ s) (q3 : s ≤ 2147483647) (q4 : -2147483648 ≤ k) (q5 : k ≤ 2147483647) : CI (EX FU (d + 6)) 79 [.ref 0, .int (jI s), .int (jI k)] (mk t) (fun z t' => OK t' ∧ Fr [(2, 100), (9, 100)] t t' ∧ (((¬ (0 ≤ s ∧ s ≤ tI t 1 10 - 1 ∧ 0 ≤ k ∧ k ≤ 5)) ∧ z = (-1000000001) ∧ t' = t) ∨ ((0 ≤ s ∧ s ≤ tI t 1 10 - 1 ∧ 0 ≤ k ∧ k ≤ 5) ∧ z = tA t 2 s.toNat ∧ (∀ i, tA t' 2 i = if i = s.toNat then k else tA t 2 i) ∧ (DK t' 1 (tI t 1 10))))) := by
  refine CI_ent (d := d + 5) (Bk := bX8_turns) (nL := 4) rfl rfl rfl (Nat.le_of_ble_eq_true rfl) ?_
  show Rn _ 1000000 0 [some (.ref 0), some (.int (jI s)), some (.int (jI k)), none] [] _ _
  have fr : Fr [(2, 100), (9, 100)] t t := Fr.rf _ _
  have hn0 := (ok.f fe_1_10).1
  have hn1 := (ok.f fe_1_10).2
  refine w_step rfl ?_
  refine w_aload rfl ?_
  refine w_iload rfl ?_
  refine w_callV1I (oj_0 _).choose_spec rfl (c_X8_isStone ok (by omega) (by omega)) ?_
  rintro z1 t1 ⟨rfl, hp1_0⟩
  rcases hp1_0 with ⟨rfl, hp1_0⟩ | ⟨rfl, hp1_0⟩
  · skip
    refine w_ieq (by omega) (fun _ => ?_) (fun h => absurd (by omega) h)
    refine w_step rfl ?_
    refine w_push kc_m1000000001 ?_
    refine w_retI rfl ?_
    exact ⟨ok, fr, (by first | (exact Or.inl ⟨by omega, by first | omega | (subst_vars; rfl), rfl⟩) | (exact Or.inr (⟨by omega, by first | omega | (subst_vars; rfl), by intro i; rw [e2.2.1 2 (by simp) i, e1, tA_uA]; simp, tn_dk q1 (by omega) e1 e2 e3⟩)))⟩
  refine w_ieq (by omega) (fun h => absurd h (by omega)) (fun _ => ?_)
  refine w_iload rfl ?_
  refine w_push kc_0 ?_
  refine w_push kc_5 ?_
  refine w_callS3I rfl (c_X8_within ok (by omega) (by omega) (by omega) (by omega) (by omega) (by omega)) ?_
  rintro z2 t2 ⟨rfl, hp2_0⟩
  rcases hp2_0 with ⟨rfl, hp2_0⟩ | ⟨rfl, hp2_0⟩
  · skip
    refine w_ine (by omega) (fun h => absurd h (by omega)) (fun _ => ?_)
    refine w_goto ?_
    refine w_step rfl ?_
    refine w_push kc_m1000000001 ?_
    refine w_retI rfl ?_
    exact ⟨ok, fr, (by first | (exact Or.inl ⟨by omega, by first | omega | (subst_vars; rfl), rfl⟩) | (exact Or.inr (⟨by omega, by first | omega | (subst_vars; rfl), by intro i; rw [e2.2.1 2 (by simp) i, e1, tA_uA]; simp, tn_dk q1 (by omega) e1 e2 e3⟩)))⟩
  refine w_ine (by omega) (fun _ => ?_) (fun h => absurd (by omega) h)
  refine w_step rfl ?_
  refine w_aload rfl ?_
  refine w_getR (g_0_0 _) ?_
  refine w_getR (g_1_0 _) ?_
  refine w_iload rfl ?_
  refine w_iald (i := (s).toNat) (ai_2 _) (by omega) (by omega) (ae_2 _) ok (fun z3 hz3 hl3 hh3 => ?_)
  refine w_istore (lv' := [some (.ref 0), some (.int (jI s)), some (.int (jI k)), some (.int (jI z3))]) rfl ?_
  refine w_aload rfl ?_
  refine w_getR (g_0_0 _) ?_
  refine w_getR (g_1_0 _) ?_
  refine w_iload rfl ?_
  refine w_iload rfl ?_
  refine w_iast (i := (s).toNat) (ai_2 _) rfl (by omega) (by omega) (ae_2 _) ok (by omega) (fun t4 ht4 ok4 => ?_)
  have fr4 := fr.uA ht4 (by simp)
  have e1 := ht4
  refine w_aload rfl ?_
  refine w_getR (g_0_0 _) ?_
  refine w_iload rfl ?_
  refine w_callV1V (oj_1 _).choose_spec rfl (e_X4_darken isT1 ok4 (GD.fr q0 fr4) (by omega) (by omega)) ?_
  rintro t5 ⟨ok5, fq5, hp5_0⟩
  have fr5 := fr4.then fq5 (by simp)
  have e2 := fq5
  have e3 := hp5_0
  refine w_iload rfl ?_
  refine w_retI rfl ?_
  exact ⟨ok5, fr5, (by first | (exact Or.inl ⟨by omega, by first | omega | (subst_vars; rfl), rfl⟩) | (exact Or.inr (⟨by omega, by first | omega | (subst_vars; rfl), by intro i; rw [e2.2.1 2 (by simp) i, e1, tA_uA]; simp, tn_dk q1 (by omega) e1 e2 e3⟩)))⟩
set_option maxRecDepth 100000 in
set_option maxHeartbeats 4000000 in
theorem e_X8_put {d : Nat} {t : TS} {s p u : Int}  (ok : OK t) (q0 : HCt t 1) (q1 : -2147483648 ≤ s) (q2 : s ≤ 2147483647) (q3 : -2147483648 ≤ p) (q4 : p ≤ 2147483647) (q5 : -2147483648 ≤ u) (q6 : u ≤ 2147483647) : CI (EX FU (d + 3)) 80 [.ref 0, .int (jI s), .int (jI p), .int (jI u)] (mk t) (fun z t' => OK t' ∧ Fr [(5, 100), (6, 100), (7, 100)] t t' ∧ (((¬ (0 ≤ s ∧ s ≤ tI t 1 10 - 1 ∧ 0 ≤ p ∧ p ≤ 11 ∧ 0 ≤ u ∧ u ≤ 1)) ∧ z = (-1000000001) ∧ t' = t) ∨ ((0 ≤ s ∧ s ≤ tI t 1 10 - 1 ∧ 0 ≤ p ∧ p ≤ 11 ∧ 0 ≤ u ∧ u ≤ 1) ∧ (¬ tA t 7 p.toNat = -1) ∧ (¬ tA t 7 p.toNat = s) ∧ z = (-1000000002) ∧ t' = t) ∨ ((0 ≤ s ∧ s ≤ tI t 1 10 - 1 ∧ 0 ≤ p ∧ p ≤ 11 ∧ 0 ≤ u ∧ u ≤ 1) ∧ (tA t 7 p.toNat = -1 ∨ tA t 7 p.toNat = s) ∧ z = tA t 5 s.toNat ∧ (CP t' 1 = (upF (tA t 5) s.toNat p, upF (tA t 6) s.toNat u)) ∧ (HCt t' 1)))) := by
  refine CI_ent (d := d + 2) (Bk := bX8_put) (nL := 5) rfl rfl rfl (Nat.le_of_ble_eq_true rfl) ?_
  show Rn _ 1000000 0 [some (.ref 0), some (.int (jI s)), some (.int (jI p)), some (.int (jI u)), none] [] _ _
  have fr : Fr [(5, 100), (6, 100), (7, 100)] t t := Fr.rf _ _
  have hn0 := (ok.f fe_1_10).1
  have hn1 := (ok.f fe_1_10).2
  refine w_step rfl ?_
  refine w_aload rfl ?_
  refine w_iload rfl ?_
  refine w_callV1I (oj_0 _).choose_spec rfl (c_X8_isStone ok (by omega) (by omega)) ?_
  rintro z1 t1 ⟨rfl, hp1_0⟩
  rcases hp1_0 with ⟨rfl, hp1_0⟩ | ⟨rfl, hp1_0⟩
  · skip
    refine w_ieq (by omega) (fun _ => ?_) (fun h => absurd (by omega) h)
    refine w_step rfl ?_
    refine w_push kc_m1000000001 ?_
    refine w_retI rfl ?_
    exact ⟨ok, fr, (by first | (exact Or.inl ⟨by omega, by first | omega | (subst_vars; rfl), rfl⟩) | (exact Or.inr (Or.inl ⟨by omega, by omega, by omega, by first | omega | (subst_vars; rfl), rfl⟩)) | (exact Or.inr (Or.inr (⟨by omega, by omega, by first | omega | (subst_vars; rfl), pu_1 m4 fm w5, pu_2 q0 m4 m6 fm w5 (by omega) (by omega) (by omega)⟩))))⟩
  refine w_ieq (by omega) (fun h => absurd h (by omega)) (fun _ => ?_)
  refine w_iload rfl ?_
  refine w_callS1I rfl (c_X8_isPlace ok (by omega) (by omega)) ?_
  rintro z2 t2 ⟨rfl, hp2_0⟩
  rcases hp2_0 with ⟨rfl, hp2_0⟩ | ⟨rfl, hp2_0⟩
  · skip
    refine w_ieq (by omega) (fun _ => ?_) (fun h => absurd (by omega) h)
    refine w_step rfl ?_
    refine w_push kc_m1000000001 ?_
    refine w_retI rfl ?_
    exact ⟨ok, fr, (by first | (exact Or.inl ⟨by omega, by first | omega | (subst_vars; rfl), rfl⟩) | (exact Or.inr (Or.inl ⟨by omega, by omega, by omega, by first | omega | (subst_vars; rfl), rfl⟩)) | (exact Or.inr (Or.inr (⟨by omega, by omega, by first | omega | (subst_vars; rfl), pu_1 m4 fm w5, pu_2 q0 m4 m6 fm w5 (by omega) (by omega) (by omega)⟩))))⟩
  refine w_ieq (by omega) (fun h => absurd h (by omega)) (fun _ => ?_)
  refine w_iload rfl ?_
  refine w_push kc_0 ?_
  refine w_push kc_1 ?_
  refine w_callS3I rfl (c_X8_within ok (by omega) (by omega) (by omega) (by omega) (by omega) (by omega)) ?_
  rintro z3 t3 ⟨rfl, hp3_0⟩
  rcases hp3_0 with ⟨rfl, hp3_0⟩ | ⟨rfl, hp3_0⟩
  · skip
    refine w_ine (by omega) (fun h => absurd h (by omega)) (fun _ => ?_)
    refine w_goto ?_
    refine w_step rfl ?_
    refine w_push kc_m1000000001 ?_
    refine w_retI rfl ?_
    exact ⟨ok, fr, (by first | (exact Or.inl ⟨by omega, by first | omega | (subst_vars; rfl), rfl⟩) | (exact Or.inr (Or.inl ⟨by omega, by omega, by omega, by first | omega | (subst_vars; rfl), rfl⟩)) | (exact Or.inr (Or.inr (⟨by omega, by omega, by first | omega | (subst_vars; rfl), pu_1 m4 fm w5, pu_2 q0 m4 m6 fm w5 (by omega) (by omega) (by omega)⟩))))⟩
  refine w_ine (by omega) (fun _ => ?_) (fun h => absurd (by omega) h)
  refine w_step rfl ?_
  refine w_aload rfl ?_
  refine w_getR (g_0_0 _) ?_
  refine w_getR (g_1_5 _) ?_
  refine w_iload rfl ?_
  refine w_iald (i := (p).toNat) (ai_7 _) (by omega) (by omega) (ae_7 _) ok (fun z4 hz4 hl4 hh4 => ?_)
  refine w_push kc_m1 ?_
  refine w_ceq (by omega) (fun h5 => ?_) (fun h5 => ?_)
  · skip
    refine w_step rfl ?_
    refine w_aload rfl ?_
    refine w_getR (g_0_0 _) ?_
    refine w_getR (g_1_3 _) ?_
    refine w_iload rfl ?_
    refine w_iald (i := (s).toNat) (ai_5 _) (by omega) (by omega) (ae_5 _) ok (fun z6 hz6 hl6 hh6 => ?_)
    refine w_istore (lv' := [some (.ref 0), some (.int (jI s)), some (.int (jI p)), some (.int (jI u)), some (.int (jI z6))]) rfl ?_
    refine w_aload rfl ?_
    refine w_getR (g_0_0 _) ?_
    refine w_iload rfl ?_
    refine w_iload rfl ?_
    refine w_callV2V (oj_1 _).choose_spec rfl (e_X4_moveTo isT1 ok (by omega) (by omega) (by omega) (by omega)) ?_
    rintro t7 ⟨ok7, fq7, hp7_0, hp7_1⟩
    have fr7 := fr.then fq7 (by simp)
    have m4 := hp7_0
    have m6 := hp7_1
    have fm := fq7
    refine w_aload rfl ?_
    refine w_getR (g_0_0 _) ?_
    refine w_getR (g_1_4 _) ?_
    refine w_iload rfl ?_
    refine w_iload rfl ?_
    refine w_iast (i := (s).toNat) (ai_6 _) rfl (by omega) (by omega) (ae_6 _) ok7 (by omega) (fun t8 ht8 ok8 => ?_)
    have fr8 := fr7.uA ht8 (by simp)
    have w5 := ht8
    refine w_iload rfl ?_
    refine w_retI rfl ?_
    exact ⟨ok8, fr8, (by first | (exact Or.inl ⟨by omega, by first | omega | (subst_vars; rfl), rfl⟩) | (exact Or.inr (Or.inl ⟨by omega, by omega, by omega, by first | omega | (subst_vars; rfl), rfl⟩)) | (exact Or.inr (Or.inr (⟨by omega, by omega, by first | omega | (subst_vars; rfl), pu_1 m4 fm w5, pu_2 q0 m4 m6 fm w5 (by omega) (by omega) (by omega)⟩))))⟩
  refine w_aload rfl ?_
  refine w_getR (g_0_0 _) ?_
  refine w_getR (g_1_5 _) ?_
  refine w_iload rfl ?_
  refine w_iald (i := (p).toNat) (ai_7 _) (by omega) (by omega) (ae_7 _) ok (fun z9 hz9 hl9 hh9 => ?_)
  refine w_iload rfl ?_
  refine w_ceq (by omega) (fun h10 => ?_) (fun h10 => ?_)
  · skip
    refine w_step rfl ?_
    refine w_aload rfl ?_
    refine w_getR (g_0_0 _) ?_
    refine w_getR (g_1_3 _) ?_
    refine w_iload rfl ?_
    refine w_iald (i := (s).toNat) (ai_5 _) (by omega) (by omega) (ae_5 _) ok (fun z11 hz11 hl11 hh11 => ?_)
    refine w_istore (lv' := [some (.ref 0), some (.int (jI s)), some (.int (jI p)), some (.int (jI u)), some (.int (jI z11))]) rfl ?_
    refine w_aload rfl ?_
    refine w_getR (g_0_0 _) ?_
    refine w_iload rfl ?_
    refine w_iload rfl ?_
    refine w_callV2V (oj_1 _).choose_spec rfl (e_X4_moveTo isT1 ok (by omega) (by omega) (by omega) (by omega)) ?_
    rintro t12 ⟨ok12, fq12, hp12_0, hp12_1⟩
    have fr12 := fr.then fq12 (by simp)
    have m4 := hp12_0
    have m6 := hp12_1
    have fm := fq12
    refine w_aload rfl ?_
    refine w_getR (g_0_0 _) ?_
    refine w_getR (g_1_4 _) ?_
    refine w_iload rfl ?_
    refine w_iload rfl ?_
    refine w_iast (i := (s).toNat) (ai_6 _) rfl (by omega) (by omega) (ae_6 _) ok12 (by omega) (fun t13 ht13 ok13 => ?_)
    have fr13 := fr12.uA ht13 (by simp)
    have w5 := ht13
    refine w_iload rfl ?_
    refine w_retI rfl ?_
    exact ⟨ok13, fr13, (by first | (exact Or.inl ⟨by omega, by first | omega | (subst_vars; rfl), rfl⟩) | (exact Or.inr (Or.inl ⟨by omega, by omega, by omega, by first | omega | (subst_vars; rfl), rfl⟩)) | (exact Or.inr (Or.inr (⟨by omega, by omega, by first | omega | (subst_vars; rfl), pu_1 m4 fm w5, pu_2 q0 m4 m6 fm w5 (by omega) (by omega) (by omega)⟩))))⟩
  refine w_push kc_m1000000002 ?_
  refine w_retI rfl ?_
  exact ⟨ok, fr, (by first | (exact Or.inl ⟨by omega, by first | omega | (subst_vars; rfl), rfl⟩) | (exact Or.inr (Or.inl ⟨by omega, by omega, by omega, by first | omega | (subst_vars; rfl), rfl⟩)) | (exact Or.inr (Or.inr (⟨by omega, by omega, by first | omega | (subst_vars; rfl), pu_1 m4 fm w5, pu_2 q0 m4 m6 fm w5 (by omega) (by omega) (by omega)⟩))))⟩
set_option maxRecDepth 100000 in
set_option maxHeartbeats 4000000 in
theorem e_X8_box {d : Nat} {t : TS} {s : Int}  (ok : OK t) (q0 : HCt t 1) (q1 : -2147483648 ≤ s) (q2 : s ≤ 2147483647) : CI (EX FU (d + 3)) 81 [.ref 0, .int (jI s)] (mk t) (fun z t' => OK t' ∧ Fr [(5, 100), (7, 100)] t t' ∧ (((¬ (0 ≤ s ∧ s ≤ tI t 1 10 - 1)) ∧ z = (-1000000001) ∧ t' = t) ∨ ((0 ≤ s ∧ s ≤ tI t 1 10 - 1) ∧ z = tA t 5 s.toNat ∧ (CP t' 1 = (upF (tA t 5) s.toNat 12, tA t 6)) ∧ (HCt t' 1)))) := by
  refine CI_ent (d := d + 2) (Bk := bX8_box) (nL := 3) rfl rfl rfl (Nat.le_of_ble_eq_true rfl) ?_
  show Rn _ 1000000 0 [some (.ref 0), some (.int (jI s)), none] [] _ _
  have fr : Fr [(5, 100), (7, 100)] t t := Fr.rf _ _
  have hn0 := (ok.f fe_1_10).1
  have hn1 := (ok.f fe_1_10).2
  refine w_step rfl ?_
  refine w_aload rfl ?_
  refine w_iload rfl ?_
  refine w_callV1I (oj_0 _).choose_spec rfl (c_X8_isStone ok (by omega) (by omega)) ?_
  rintro z1 t1 ⟨rfl, hp1_0⟩
  rcases hp1_0 with ⟨rfl, hp1_0⟩ | ⟨rfl, hp1_0⟩
  · skip
    refine w_ine (by omega) (fun h => absurd h (by omega)) (fun _ => ?_)
    refine w_push kc_m1000000001 ?_
    refine w_retI rfl ?_
    exact ⟨ok, fr, (by first | (exact Or.inl ⟨by omega, by first | omega | (subst_vars; rfl), rfl⟩) | (exact Or.inr (⟨by omega, by first | omega | (subst_vars; rfl), pu_3 m4 fm, pu_4 q0 m4 m6 fm (by omega)⟩)))⟩
  refine w_ine (by omega) (fun _ => ?_) (fun h => absurd (by omega) h)
  refine w_step rfl ?_
  refine w_aload rfl ?_
  refine w_getR (g_0_0 _) ?_
  refine w_getR (g_1_3 _) ?_
  refine w_iload rfl ?_
  refine w_iald (i := (s).toNat) (ai_5 _) (by omega) (by omega) (ae_5 _) ok (fun z2 hz2 hl2 hh2 => ?_)
  refine w_istore (lv' := [some (.ref 0), some (.int (jI s)), some (.int (jI z2))]) rfl ?_
  refine w_aload rfl ?_
  refine w_getR (g_0_0 _) ?_
  refine w_iload rfl ?_
  refine w_push kc_12 ?_
  refine w_callV2V (oj_1 _).choose_spec rfl (e_X4_moveTo isT1 ok (by omega) (by omega) (by omega) (by omega)) ?_
  rintro t3 ⟨ok3, fq3, hp3_0, hp3_1⟩
  have fr3 := fr.then fq3 (by simp)
  have m4 := hp3_0
  have m6 := hp3_1
  have fm := fq3
  refine w_iload rfl ?_
  refine w_retI rfl ?_
  exact ⟨ok3, fr3, (by first | (exact Or.inl ⟨by omega, by first | omega | (subst_vars; rfl), rfl⟩) | (exact Or.inr (⟨by omega, by first | omega | (subst_vars; rfl), pu_3 m4 fm, pu_4 q0 m4 m6 fm (by omega)⟩)))⟩
set_option maxRecDepth 100000 in
set_option maxHeartbeats 4000000 in
theorem e_X8_deal {d : Nat} {t : TS} {n : Int}  (ok : OK t) (q0 : GD t) (q1 : HCt t 1) (q2 : DK t 1 (tI t 1 10)) (q3 : -2147483648 ≤ n) (q4 : n ≤ 2147483647) : CI (EX FU (d + 8)) 84 [.ref 0, .int (jI n)] (mk t) (fun z t' => OK t' ∧ Fr [(1, 10), (1, 14), (2, 100), (3, 100), (4, 100), (5, 100), (6, 100), (9, 100)] t t' ∧ (((¬ (1 ≤ n ∧ n ≤ 12)) ∧ z = (-1000000001) ∧ t' = t) ∨ ((1 ≤ n ∧ n ≤ 12) ∧ z = min n (12 - tI t 1 10) ∧ (tI t' 1 10 = tI t 1 10 + min n (12 - tI t 1 10)) ∧ (tI t' 1 14 = dzF (min n (12 - tI t 1 10)).toNat (tI t 1 14)) ∧ (∀ m : Nat, tA t' 2 m = if tI t 1 10 ≤ (m : Int) ∧ (m : Int) < tI t 1 10 + min n (12 - tI t 1 10) then kdF (tI t 1 14) (m - (tI t 1 10).toNat) else tA t 2 m) ∧ (∀ m : Nat, tA t' 3 m = if tI t 1 10 ≤ (m : Int) ∧ (m : Int) < tI t 1 10 + min n (12 - tI t 1 10) then ldF (tI t 1 14) (m - (tI t 1 10).toNat) else tA t 3 m) ∧ (∀ m : Nat, tA t' 4 m = if tI t 1 10 ≤ (m : Int) ∧ (m : Int) < tI t 1 10 + min n (12 - tI t 1 10) then rdF (tI t 1 14) (m - (tI t 1 10).toNat) else tA t 4 m) ∧ (∀ m : Nat, tA t' 5 m = if tI t 1 10 ≤ (m : Int) ∧ (m : Int) < tI t 1 10 + min n (12 - tI t 1 10) then 12 else tA t 5 m) ∧ (∀ m : Nat, tA t' 6 m = if tI t 1 10 ≤ (m : Int) ∧ (m : Int) < tI t 1 10 + min n (12 - tI t 1 10) then 0 else tA t 6 m) ∧ (HCt t' 1) ∧ (DK t' 1 (tI t' 1 10))))) := by
  refine CI_ent (d := d + 7) (Bk := bX8_deal) (nL := 4) rfl rfl rfl (Nat.le_of_ble_eq_true rfl) ?_
  show Rn _ 1000000 0 [some (.ref 0), some (.int (jI n)), none, none] [] _ _
  have fr : Fr [(1, 10), (1, 14), (2, 100), (3, 100), (4, 100), (5, 100), (6, 100), (9, 100)] t t := Fr.rf _ _
  have hn0 := (ok.f fe_1_10).1
  have hn1 := (ok.f fe_1_10).2
  refine w_step rfl ?_
  refine w_iload rfl ?_
  refine w_push kc_1 ?_
  refine w_push kc_12 ?_
  refine w_callS3I rfl (c_X8_within ok (by omega) (by omega) (by omega) (by omega) (by omega) (by omega)) ?_
  rintro z1 t1 ⟨rfl, hp1_0⟩
  rcases hp1_0 with ⟨rfl, hp1_0⟩ | ⟨rfl, hp1_0⟩
  · skip
    refine w_ine (by omega) (fun h => absurd h (by omega)) (fun _ => ?_)
    refine w_push kc_m1000000001 ?_
    refine w_retI rfl ?_
    exact ⟨ok, fr, (by first | (exact Or.inl ⟨by omega, by first | omega | (subst_vars; rfl), rfl⟩) | (exact Or.inr (⟨by omega, by first | omega | (subst_vars; rfl), by omega, by rw [i2_3, show i = min n (12 - tI t 1 10) by omega], by have e : i = min n (12 - tI t 1 10) := (by omega); rw [← e]; exact i2_4, by have e : i = min n (12 - tI t 1 10) := (by omega); rw [← e]; exact i2_5, by have e : i = min n (12 - tI t 1 10) := (by omega); rw [← e]; exact i2_6, by have e : i = min n (12 - tI t 1 10) := (by omega); rw [← e]; exact i2_9, by have e : i = min n (12 - tI t 1 10) := (by omega); rw [← e]; exact i2_10, i2_7, i2_8⟩)))⟩
  refine w_ine (by omega) (fun _ => ?_) (fun h => absurd (by omega) h)
  refine w_step rfl ?_
  refine w_iload rfl ?_
  refine w_push kc_12 ?_
  refine w_aload rfl ?_
  refine w_getR (g_0_0 _) ?_
  refine w_getI (g_1_10 _) fe_1_10 ok (fun z2 hz2 hl2 hh2 => ?_)
  have en := hz2
  refine w_sub ?_
  refine w_min rfl (by omega) ?_
  
  refine w_istore (lv' := [some (.ref 0), some (.int (jI n)), some (.int (jI (min n (12 - z2)))), none]) rfl ?_
  refine w_push kc_0 ?_
  refine w_istore (lv' := [some (.ref 0), some (.int (jI n)), some (.int (jI (min n (12 - z2)))), some (.int (jI 0))]) rfl ?_
  refine w_goto ?_
  have key2 : ∀ (n2 M2 : Nat) (i : Int) (t3 : TS), OK t3 → Fr [(1, 10), (1, 14), (2, 100), (3, 100), (4, 100), (5, 100), (6, 100), (9, 100)] t t3 → (0 ≤ i) → (i ≤ (min n (12 - tI t 1 10))) → (tI t3 1 10 = tI t 1 10 + i) → (tI t3 1 14 = dzF i.toNat (tI t 1 14)) → (∀ m : Nat, tA t3 2 m = if tI t 1 10 ≤ (m : Int) ∧ (m : Int) < tI t 1 10 + i then kdF (tI t 1 14) (m - (tI t 1 10).toNat) else tA t 2 m) → (∀ m : Nat, tA t3 3 m = if tI t 1 10 ≤ (m : Int) ∧ (m : Int) < tI t 1 10 + i then ldF (tI t 1 14) (m - (tI t 1 10).toNat) else tA t 3 m) → (∀ m : Nat, tA t3 4 m = if tI t 1 10 ≤ (m : Int) ∧ (m : Int) < tI t 1 10 + i then rdF (tI t 1 14) (m - (tI t 1 10).toNat) else tA t 4 m) → (HCt t3 1) → (DK t3 1 (tI t3 1 10)) → (∀ m : Nat, tA t3 5 m = if tI t 1 10 ≤ (m : Int) ∧ (m : Int) < tI t 1 10 + i then 12 else tA t 5 m) → (∀ m : Nat, tA t3 6 m = if tI t 1 10 ≤ (m : Int) ∧ (m : Int) < tI t 1 10 + i then 0 else tA t 6 m) → 12 - i < (n2 : Int) → 60 * n2 + (1000) ≤ M2 → Rn (bX8_deal (EX FU (d + 7))) M2 2 [some (.ref 0), some (.int (jI n)), some (.int (jI (min n (12 - z2)))), some (.int (jI i))] [] (mk t3) (PI (fun z t' => OK t' ∧ Fr [(1, 10), (1, 14), (2, 100), (3, 100), (4, 100), (5, 100), (6, 100), (9, 100)] t t' ∧ (((¬ (1 ≤ n ∧ n ≤ 12)) ∧ z = (-1000000001) ∧ t' = t) ∨ ((1 ≤ n ∧ n ≤ 12) ∧ z = min n (12 - tI t 1 10) ∧ (tI t' 1 10 = tI t 1 10 + min n (12 - tI t 1 10)) ∧ (tI t' 1 14 = dzF (min n (12 - tI t 1 10)).toNat (tI t 1 14)) ∧ (∀ m : Nat, tA t' 2 m = if tI t 1 10 ≤ (m : Int) ∧ (m : Int) < tI t 1 10 + min n (12 - tI t 1 10) then kdF (tI t 1 14) (m - (tI t 1 10).toNat) else tA t 2 m) ∧ (∀ m : Nat, tA t' 3 m = if tI t 1 10 ≤ (m : Int) ∧ (m : Int) < tI t 1 10 + min n (12 - tI t 1 10) then ldF (tI t 1 14) (m - (tI t 1 10).toNat) else tA t 3 m) ∧ (∀ m : Nat, tA t' 4 m = if tI t 1 10 ≤ (m : Int) ∧ (m : Int) < tI t 1 10 + min n (12 - tI t 1 10) then rdF (tI t 1 14) (m - (tI t 1 10).toNat) else tA t 4 m) ∧ (∀ m : Nat, tA t' 5 m = if tI t 1 10 ≤ (m : Int) ∧ (m : Int) < tI t 1 10 + min n (12 - tI t 1 10) then 12 else tA t 5 m) ∧ (∀ m : Nat, tA t' 6 m = if tI t 1 10 ≤ (m : Int) ∧ (m : Int) < tI t 1 10 + min n (12 - tI t 1 10) then 0 else tA t 6 m) ∧ (HCt t' 1) ∧ (DK t' 1 (tI t' 1 10)))))) := by
    intro n2
    induction n2 with
    | zero => intro M2 i t3 ok3 fr3 i2_0 i2_1 i2_2 i2_3 i2_4 i2_5 i2_6 i2_7 i2_8 i2_9 i2_10 v2 f2; exfalso; omega
    | succ n2 ih2 =>
      intro M2 i t3 ok3 fr3 i2_0 i2_1 i2_2 i2_3 i2_4 i2_5 i2_6 i2_7 i2_8 i2_9 i2_10 v2 f2
      obtain ⟨M2, rfl⟩ : ∃ m, M2 = m + 60 := ⟨M2 - 60, by omega⟩
      refine w_step rfl ?_
      refine w_iload rfl ?_
      refine w_iload rfl ?_
      refine w_cge (by omega) (fun h4 => ?_) (fun h4 => ?_)
      · skip
        refine w_step rfl ?_
        refine w_iload rfl ?_
        refine w_retI rfl ?_
        exact ⟨ok3, fr3, (by first | (exact Or.inl ⟨by omega, by first | omega | (subst_vars; rfl), rfl⟩) | (exact Or.inr (⟨by omega, by first | omega | (subst_vars; rfl), by omega, by rw [i2_3, show i = min n (12 - tI t 1 10) by omega], by have e : i = min n (12 - tI t 1 10) := (by omega); rw [← e]; exact i2_4, by have e : i = min n (12 - tI t 1 10) := (by omega); rw [← e]; exact i2_5, by have e : i = min n (12 - tI t 1 10) := (by omega); rw [← e]; exact i2_6, by have e : i = min n (12 - tI t 1 10) := (by omega); rw [← e]; exact i2_9, by have e : i = min n (12 - tI t 1 10) := (by omega); rw [← e]; exact i2_10, i2_7, i2_8⟩)))⟩
      refine w_aload rfl ?_
      refine w_getR (g_0_0 _) ?_
      refine w_callV0V (oj_1 _).choose_spec rfl (e_X4_drawStone isT1 ok3 (GD.fr q0 fr3) (by omega)) ?_
      rintro t5 ⟨ok5, fq5, hp5_0, hp5_1, hp5_2, hp5_3, hp5_4, hp5_5⟩
      have fr5 := fr3.then fq5 (by simp)
      have ez : tI t5 1 14 = dzF (i + 1).toNat (tI t 1 14) := by rw [hp5_0, i2_3, show (i + 1).toNat = i.toNat + 1 by omega]; rfl
      have e1 := hp5_1
      have e2 := hp5_2
      have e3 := hp5_3
      have e4 := hp5_4
      have e5 := as_hc i2_7 hp5_5 (fun i => fq5.2.1 7 (by simp) i) hp5_1 (by omega)
      have e6 := as_dk i2_8 hp5_5 hp5_1 (by omega) (fun i => fq5.2.1 11 (by simp) i) (fq5.1 1 11 (by simp)) (fun i => fq5.2.2.1 10 (by simp) i) fq5.2.2.2.2 (fun i hi => by rw [hp5_2 i, if_neg hi]) (fun i hi => by rw [hp5_3 i, if_neg hi]) (fun i hi => by rw [hp5_4 i, if_neg hi])
      have e7 := hp5_5.1
      have e8 := hp5_5.2.1
      refine w_iinc (lv' := [some (.ref 0), some (.int (jI n)), some (.int (jI (min n (12 - z2)))), some (.int (jI (i + 1)))]) kc_1 rfl rfl ?_
      refine w_goto ?_
      exact ih2 _ (i + 1) t5 ok5 fr5 (by omega) (by omega) (by omega) ez (deal_step hn0 i2_0 (by omega) i2_4 e2 (by rw [i2_3]; rfl)) (deal_step hn0 i2_0 (by omega) i2_5 e3 (by rw [i2_3]; rfl)) (deal_step hn0 i2_0 (by omega) i2_6 e4 (by rw [i2_3]; rfl)) e5 e6 (deal_step (F := fun _ => 12) hn0 i2_0 (by omega) i2_9 e7 rfl) (deal_step (F := fun _ => 0) hn0 i2_0 (by omega) i2_10 e8 rfl) (by omega) (by omega)
  exact key2 13 _ 0 t ok fr (by omega) (by omega) (by omega) rfl (by intro m; rw [if_neg (by omega)]) (by intro m; rw [if_neg (by omega)]) (by intro m; rw [if_neg (by omega)]) q1 q2 (by intro m; rw [if_neg (by omega)]) (by intro m; rw [if_neg (by omega)]) (by omega) (by omega)
set_option maxRecDepth 100000 in
set_option maxHeartbeats 4000000 in
theorem e_X8_days {d : Nat} {t : TS} {n : Int}  (ok : OK t) (q0 : HCt t 1) (q1 : -2147483648 ≤ n) (q2 : n ≤ 2147483647) (q3 : 0 ≤ tI t 1 13) (q4 : tI t 1 13 ≤ 9999) : CI (EX FU (d + 6)) 86 [.ref 0, .int (jI n)] (mk t) (fun z t' => OK t' ∧ Fr [(1, 13), (1, 14), (5, 100), (6, 100), (7, 100)] t t' ∧ (((¬ (1 ≤ n ∧ n ≤ 100)) ∧ z = (-1000000001) ∧ t' = t) ∨ ((1 ≤ n ∧ n ≤ 100) ∧ z = cnX t 1 (min n (9999 - tI t 1 13)).toNat - cnX t 1 0 ∧ (tI t' 1 14 = zdsF (min n (9999 - tI t 1 13)).toNat (tI t 1 14) (tI t 1 12)) ∧ (tI t' 1 13 = tI t 1 13 + min n (9999 - tI t 1 13)) ∧ (GLp t t' 1 (dysF (tI t 1 10).toNat (OC t 1) (tI t 1 12) (tI t 1 14) (min n (9999 - tI t 1 13)).toNat (CP t 1)))))) := by
  refine CI_ent (d := d + 5) (Bk := bX8_days) (nL := 3) rfl rfl rfl (Nat.le_of_ble_eq_true rfl) ?_
  show Rn _ 1000000 0 [some (.ref 0), some (.int (jI n)), none] [] _ _
  have fr : Fr [(1, 13), (1, 14), (5, 100), (6, 100), (7, 100)] t t := Fr.rf _ _
  have hn0 := (ok.f fe_1_10).1
  have hn1 := (ok.f fe_1_10).2
  refine w_step rfl ?_
  refine w_iload rfl ?_
  refine w_push kc_1 ?_
  refine w_push kc_100 ?_
  refine w_callS3I rfl (c_X8_within ok (by omega) (by omega) (by omega) (by omega) (by omega) (by omega)) ?_
  rintro z1 t1 ⟨rfl, hp1_0⟩
  rcases hp1_0 with ⟨rfl, hp1_0⟩ | ⟨rfl, hp1_0⟩
  · skip
    refine w_ine (by omega) (fun h => absurd h (by omega)) (fun _ => ?_)
    refine w_push kc_m1000000001 ?_
    refine w_retI rfl ?_
    exact ⟨ok, fr, (by first | (exact Or.inl ⟨by omega, by first | omega | (subst_vars; rfl), rfl⟩) | (exact Or.inr (⟨by omega, by omega, by first | exact e1, by first | exact e2 | omega, e3⟩)))⟩
  refine w_ine (by omega) (fun _ => ?_) (fun h => absurd (by omega) h)
  refine w_step rfl ?_
  refine w_aload rfl ?_
  refine w_getR (g_0_0 _) ?_
  refine w_callV0I (oj_1 _).choose_spec rfl (e_X4_laidStones isT1 ok) ?_
  rintro z2 t2 ⟨rfl, hp2_0, hp2_1, hp2_2⟩
  have hc1 : z2 = cnX t 1 0 := by rw [hp2_0]; exact cnC q0
  have hcr := cn_r (tA t 7) 12
  refine w_istore (lv' := [some (.ref 0), some (.int (jI n)), some (.int (jI z2))]) rfl ?_
  refine w_aload rfl ?_
  refine w_getR (g_0_0 _) ?_
  refine w_iload rfl ?_
  refine w_push kc_9999 ?_
  refine w_aload rfl ?_
  refine w_getR (g_0_0 _) ?_
  refine w_getI (g_1_13 _) fe_1_13 ok (fun z3 hz3 hl3 hh3 => ?_)
  have en := hz3
  refine w_sub ?_
  refine w_min rfl (by omega) ?_
  refine w_callV1V (oj_1 _).choose_spec rfl (e_X4_passDays isT1 ok (by omega) (by omega) (by omega) (by omega)) ?_
  rintro t4 ⟨ok4, fq4, hp4_0, hp4_1, hp4_2⟩
  have fr4 := fr.then fq4 (by simp)
  have e1 := hp4_0
  rw [en] at e1
  have e2 := hp4_1 (by omega) (by omega) (by omega)
  have e3 := hp4_2
  rw [en] at e3
  refine w_aload rfl ?_
  refine w_getR (g_0_0 _) ?_
  refine w_callV0I (oj_1 _).choose_spec rfl (e_X4_laidStones isT1 ok4) ?_
  rintro z5 t5 ⟨rfl, hp5_0, hp5_1, hp5_2⟩
  have hcr2 := cn_r (tA t4 7) 12
  have hc2 : z5 = cnX t 1 (min n (9999 - tI t 1 13)).toNat := by rw [hp5_0]; exact dy_cn e3
  refine w_iload rfl ?_
  refine w_sub ?_
  refine w_retI rfl ?_
  exact ⟨ok4, fr4, (by first | (exact Or.inl ⟨by omega, by first | omega | (subst_vars; rfl), rfl⟩) | (exact Or.inr (⟨by omega, by omega, by first | exact e1, by first | exact e2 | omega, e3⟩)))⟩
