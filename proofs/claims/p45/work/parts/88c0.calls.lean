section
theorem at_c {t : TS} {p : Int} (h : HCt t 1) (hp : 0 ≤ p ∧ p < 12) : tA t 7 p.toNat = atX t 1 0 p := by
  have e := h.1 p.toNat (by omega)
  rw [Int.toNat_of_nonneg hp.1] at e
  exact e
theorem fl_c {t : TS} {p : Int} {hv : Nat → Int} (h : HCt t 1) (hp : 0 ≤ p ∧ p ≤ 12) : flF hv (tA t (1 + 6)) p.toNat = flF hv (HF (CP t 1).1 (tI t 1 10).toNat) p.toNat := by
  unfold flF
  exact faS_cg (fun q hq => ⟨h.HF q hq, fun _ => rfl⟩) _ _ _ _ (by omega)
theorem oc_fr {S : List (Nat × Nat)} {t u : TS} (f : Fr S t u) {b : Nat} (h7 : (b + 7, 100) ∉ S) (h8 : (b + 8, 100) ∉ S) : OC u b = OC t b := by
  unfold OC
  rw [funext (f.2.1 _ h7), funext (f.2.1 _ h8)]
theorem lo_h {S : List (Nat × Nat)} {t u : TS} (h : HCt t 1) (f : Fr S t u) (h5 : (5, 100) ∉ S) (h7 : (7, 100) ∉ S) (h10 : (1, 10) ∉ S) : HCt u 1 := by
  have e5 := funext (f.2.1 _ h5)
  have e7 := funext (f.2.1 _ h7)
  unfold HCt
  rw [show 1 + 6 = 7 from rfl, show 1 + 4 = 5 from rfl, e5, e7, f.1 _ _ h10]
  exact h
theorem lo_c {S : List (Nat × Nat)} {t u : TS} {s k : Nat} (f : Fr S t u) (h5 : (5, 100) ∉ S) (h6 : (6, 100) ∉ S) (h8 : (8, 100) ∉ S) (h9 : (9, 100) ∉ S) (h10 : (1, 10) ∉ S) (h12 : (1, 12) ∉ S) (h14 : (1, 14) ∉ S) : picG (tI u 1 10).toNat (OC u 1) (dysF (tI u 1 10).toNat (OC u 1) (tI u 1 12) (tI u 1 14) k (upF (tA u 5) s 13, tA u 6)) = picG (tI t 1 10).toNat (OC t 1) (dysF (tI t 1 10).toNat (OC t 1) (tI t 1 12) (tI t 1 14) k (upF (tA t 5) s 13, tA t 6)) := by
  rw [oc_fr f h8 h9, f.1 _ _ h10, f.1 _ _ h12, f.1 _ _ h14, funext (f.2.1 _ h5), funext (f.2.1 _ h6)]
theorem ck_h {S : List (Nat × Nat)} {t u : TS} (h : HCt t 12) (f : Fr S t u) (h5 : (16, 100) ∉ S) (h7 : (18, 100) ∉ S) (h10 : (12, 10) ∉ S) : HCt u 12 := by
  have e5 := funext (f.2.1 _ h5)
  have e7 := funext (f.2.1 _ h7)
  unfold HCt
  rw [show 12 + 6 = 18 from rfl, show 12 + 4 = 16 from rfl, e5, e7, f.1 _ _ h10]
  exact h
theorem ck_c {S : List (Nat × Nat)} {t u : TS} {m d z : Int} (f : Fr S t u) (h : CkP (pcX u 12) (mtX u 12) (tA u 44) m d z) (h44 : (44, 100) ∉ S) (h14 : (14, 100) ∉ S) (h15 : (15, 100) ∉ S) (h16 : (16, 100) ∉ S) (h17 : (17, 100) ∉ S) (h19 : (19, 100) ∉ S) (h20 : (20, 100) ∉ S) (k10 : (12, 10) ∉ S) (k12 : (12, 12) ∉ S) (k14 : (12, 14) ∉ S) : CkP (pcX t 12) (mtX t 12) (tA t 44) m d z := by
  have x : ∀ k, xG u 12 k = xG t 12 k := by
    intro k
    unfold xG
    rw [oc_fr f h19 h20, f.1 _ _ k10, f.1 _ _ k12, f.1 _ _ k14]
    unfold CP
    rw [show 12 + 4 = 16 from rfl, show 12 + 5 = 17 from rfl, funext (f.2.1 _ h16), funext (f.2.1 _ h17)]
  have e1 : pcX u 12 = pcX t 12 := by
    funext k
    unfold pcX
    rw [x, oc_fr f h19 h20, f.1 _ _ k10]
  have e2 : mtX u 12 = mtX t 12 := by
    funext k
    unfold mtX
    rw [x, f.1 _ _ k10, show 12 + 2 = 14 from rfl, show 12 + 3 = 15 from rfl, funext (f.2.1 _ h14), funext (f.2.1 _ h15)]
  rw [e1, e2, funext (f.2.1 _ h44)] at h
  exact h
theorem by_s {t u v w : TS} {x i z y : Int} (hi : 0 ≤ i ∧ i ≤ 24 ∧ i % 8 = 0) (h : tI u 37 1 = tI t 37 1 + (24 - i) / 8) (g : ∀ m : Nat, tA u 38 m = if tI t 37 1 ≤ (m : Int) ∧ (m : Int) < tI t 37 1 + (24 - i) / 8 then byF x (24 - 8 * ((m : Int) - tI t 37 1)) else tA t 38 m) (hz : z = tI u 37 1) (e : v = uA u 38 z.toNat y) (e2 : ∀ m, tA w 38 m = tA v 38 m) (hy : y = byF x i) (h0 : 0 ≤ tI t 37 1) : ∀ m : Nat, tA w 38 m = if tI t 37 1 ≤ (m : Int) ∧ (m : Int) < tI t 37 1 + (24 - (i + (-8))) / 8 then byF x (24 - 8 * ((m : Int) - tI t 37 1)) else tA t 38 m := by
  intro m
  rw [e2, e, tA_uA, g]
  by_cases q : m = z.toNat
  · rw [if_pos ⟨rfl, q⟩, if_pos (by omega), hy]
    congr 1
    omega
  · rw [if_neg (fun k => q k.2)]
    by_cases q2 : tI t 37 1 ≤ (m : Int) ∧ (m : Int) < tI t 37 1 + (24 - i) / 8
    · rw [if_pos q2, if_pos (by omega)]
    · rw [if_neg q2, if_neg (by omega)]
theorem fd_c {t a b c : TS} {x y w : Int} (h0 : 0 ≤ tI t 37 1) (a1 : tI a 37 1 = tI t 37 1 + 4) (a2 : tI b 37 1 = tI a 37 1 + 4) (b1 : ∀ m : Nat, tA a 38 m = if tI t 37 1 ≤ (m : Int) ∧ (m : Int) < tI t 37 1 + 4 then byF x (24 - 8 * ((m : Int) - tI t 37 1)) else tA t 38 m) (b2 : ∀ m : Nat, tA b 38 m = if tI a 37 1 ≤ (m : Int) ∧ (m : Int) < tI a 37 1 + 4 then byF y (24 - 8 * ((m : Int) - tI a 37 1)) else tA a 38 m) (b3 : ∀ m : Nat, tA c 38 m = if tI b 37 1 ≤ (m : Int) ∧ (m : Int) < tI b 37 1 + 4 then byF w (24 - 8 * ((m : Int) - tI b 37 1)) else tA b 38 m) : ∀ m : Nat, tA c 38 m = if tI t 37 1 ≤ (m : Int) ∧ (m : Int) < tI t 37 1 + 12 then fbF x y w (m - (tI t 37 1).toNat) else tA t 38 m := by
  intro m
  rw [b3]
  by_cases q3 : tI b 37 1 ≤ (m : Int) ∧ (m : Int) < tI b 37 1 + 4
  · rw [if_pos q3, if_pos (by omega)]
    unfold fbF
    rw [if_neg (by omega), if_neg (by omega)]
    congr 1
    omega
  · rw [if_neg q3, b2]
    by_cases q2 : tI a 37 1 ≤ (m : Int) ∧ (m : Int) < tI a 37 1 + 4
    · rw [if_pos q2, if_pos (by omega)]
      unfold fbF
      rw [if_neg (by omega), if_pos (by omega)]
      congr 1
      omega
    · rw [if_neg q2, b1]
      by_cases q1 : tI t 37 1 ≤ (m : Int) ∧ (m : Int) < tI t 37 1 + 4
      · rw [if_pos q1, if_pos (by omega)]
        unfold fbF
        rw [if_pos (by omega)]
        congr 1
        omega
      · rw [if_neg q1, if_neg (by omega)]
set_option maxRecDepth 100000 in
set_option maxHeartbeats 4000000 in
theorem e_X8_king {d : Nat} {t : TS} {w : Int}  (ok : OK t) (q0 : HCt t 1) (q1 : -2147483648 ≤ w) (q2 : w ≤ 2147483647) : CI (EX FU (d + 4)) 87 [.ref 0, .int (jI w)] (mk t) (fun z t' => t = t' ∧ (((w = 0) ∧ z = pcX t 1 0) ∨ ((w = 1) ∧ z = mtX t 1 0) ∨ ((w = 2) ∧ z = cnX t 1 0) ∨ ((w = 3) ∧ z = phG (tI t 1 10).toNat (CP t 1)) ∨ ((¬ (0 ≤ w ∧ w ≤ 3)) ∧ z = (-1000000001)))) := by
  refine CI_ent (d := d + 3) (Bk := bX8_king) (nL := 2) rfl rfl rfl (Nat.le_of_ble_eq_true rfl) ?_
  show Rn _ 1000000 0 [some (.ref 0), some (.int (jI w))] [] _ _
  have hn0 := (ok.f fe_1_10).1
  have hn1 := (ok.f fe_1_10).2
  have hu6 : ∀ s, 0 ≤ tA t 6 s ∧ tA t 6 s ≤ 1 := fun s => ok.a (ae_6 s)
  refine w_step rfl ?_
  refine w_iload rfl ?_
  have hs1 : w = 0 ∨ w = 1 ∨ w = 2 ∨ w = 3 ∨ (w < 0 ∨ 0 + 4 ≤ w) := (by omega)
  rcases hs1 with hs1 | hs1 | hs1 | hs1 | hs1
  · refine w_sw (n := 1) (tsw_at hs1 (by decide)) ?_
    refine w_step rfl ?_
    refine w_aload rfl ?_
    refine w_getR (g_0_0 _) ?_
    refine w_callV0I (oj_1 _).choose_spec rfl (e_X4_picture isT1 ok) ?_
    rintro z2 t2 ⟨rfl, hp2_0, hp2_1, hp2_2⟩
    refine w_retI rfl ?_
    exact ⟨rfl, (by first | (exact Or.inl ⟨by omega, by rw [hp2_2]; exact picC q0 (OC t 1) (fun _ _ _ => rfl) hu6⟩) | (exact Or.inr (Or.inl ⟨by omega, by rw [hp2_2]; exact matC q0⟩)) | (exact Or.inr (Or.inr (Or.inl ⟨by omega, by rw [hp2_0]; exact cnC q0⟩))) | (exact Or.inr (Or.inr (Or.inr (Or.inl ⟨by omega, by rw [hp2_2]; exact phC q0⟩)))) | (exact Or.inr (Or.inr (Or.inr (Or.inr (⟨by omega, by first | omega | (subst_vars; rfl)⟩))))))⟩
  · refine w_sw (n := 2) (tsw_at hs1 (by decide)) ?_
    refine w_step rfl ?_
    refine w_aload rfl ?_
    refine w_getR (g_0_0 _) ?_
    refine w_callV0I (oj_1 _).choose_spec rfl (e_X4_matches isT1 ok) ?_
    rintro z3 t3 ⟨rfl, hp3_0, hp3_1, hp3_2⟩
    refine w_retI rfl ?_
    exact ⟨rfl, (by first | (exact Or.inl ⟨by omega, by rw [hp3_2]; exact picC q0 (OC t 1) (fun _ _ _ => rfl) hu6⟩) | (exact Or.inr (Or.inl ⟨by omega, by rw [hp3_2]; exact matC q0⟩)) | (exact Or.inr (Or.inr (Or.inl ⟨by omega, by rw [hp3_0]; exact cnC q0⟩))) | (exact Or.inr (Or.inr (Or.inr (Or.inl ⟨by omega, by rw [hp3_2]; exact phC q0⟩)))) | (exact Or.inr (Or.inr (Or.inr (Or.inr (⟨by omega, by first | omega | (subst_vars; rfl)⟩))))))⟩
  · refine w_sw (n := 3) (tsw_at hs1 (by decide)) ?_
    refine w_step rfl ?_
    refine w_aload rfl ?_
    refine w_getR (g_0_0 _) ?_
    refine w_callV0I (oj_1 _).choose_spec rfl (e_X4_laidStones isT1 ok) ?_
    rintro z4 t4 ⟨rfl, hp4_0, hp4_1, hp4_2⟩
    refine w_retI rfl ?_
    exact ⟨rfl, (by first | (exact Or.inl ⟨by omega, by rw [hp4_2]; exact picC q0 (OC t 1) (fun _ _ _ => rfl) hu6⟩) | (exact Or.inr (Or.inl ⟨by omega, by rw [hp4_2]; exact matC q0⟩)) | (exact Or.inr (Or.inr (Or.inl ⟨by omega, by rw [hp4_0]; exact cnC q0⟩))) | (exact Or.inr (Or.inr (Or.inr (Or.inl ⟨by omega, by rw [hp4_2]; exact phC q0⟩)))) | (exact Or.inr (Or.inr (Or.inr (Or.inr (⟨by omega, by first | omega | (subst_vars; rfl)⟩))))))⟩
  · refine w_sw (n := 4) (tsw_at hs1 (by decide)) ?_
    refine w_step rfl ?_
    refine w_aload rfl ?_
    refine w_getR (g_0_0 _) ?_
    refine w_callV0I (oj_1 _).choose_spec rfl (e_X4_placesHeld isT1 ok) ?_
    rintro z5 t5 ⟨rfl, hp5_0, hp5_1, hp5_2⟩
    refine w_retI rfl ?_
    exact ⟨rfl, (by first | (exact Or.inl ⟨by omega, by rw [hp5_2]; exact picC q0 (OC t 1) (fun _ _ _ => rfl) hu6⟩) | (exact Or.inr (Or.inl ⟨by omega, by rw [hp5_2]; exact matC q0⟩)) | (exact Or.inr (Or.inr (Or.inl ⟨by omega, by rw [hp5_0]; exact cnC q0⟩))) | (exact Or.inr (Or.inr (Or.inr (Or.inl ⟨by omega, by rw [hp5_2]; exact phC q0⟩)))) | (exact Or.inr (Or.inr (Or.inr (Or.inr (⟨by omega, by first | omega | (subst_vars; rfl)⟩))))))⟩
  · refine w_sw (n := 5) (tsw_df (m := 4) rfl (by omega) (by omega)) ?_
    refine w_step rfl ?_
    refine w_push kc_m1000000001 ?_
    refine w_retI rfl ?_
    exact ⟨rfl, (by first | (exact Or.inl ⟨by omega, by rw [hp99qq_2]; exact picC q0 (OC t 1) (fun _ _ _ => rfl) hu6⟩) | (exact Or.inr (Or.inl ⟨by omega, by rw [hp99qq_2]; exact matC q0⟩)) | (exact Or.inr (Or.inr (Or.inl ⟨by omega, by rw [hp99qq_0]; exact cnC q0⟩))) | (exact Or.inr (Or.inr (Or.inr (Or.inl ⟨by omega, by rw [hp99qq_2]; exact phC q0⟩)))) | (exact Or.inr (Or.inr (Or.inr (Or.inr (⟨by omega, by first | omega | (subst_vars; rfl)⟩))))))⟩
set_option maxRecDepth 100000 in
set_option maxHeartbeats 4000000 in
theorem e_X8_at {d : Nat} {t : TS} {p : Int}  (ok : OK t) (q0 : HCt t 1) (q1 : -2147483648 ≤ p) (q2 : p ≤ 2147483647) : CI (EX FU (d + 3)) 88 [.ref 0, .int (jI p)] (mk t) (fun z t' => t = t' ∧ (((¬ (0 ≤ p ∧ p ≤ 11)) ∧ z = (-1000000001)) ∨ ((0 ≤ p ∧ p ≤ 11) ∧ (atX t 1 0 p = -1) ∧ z = (-1000000005)) ∨ ((0 ≤ p ∧ p ≤ 11) ∧ (¬ atX t 1 0 p = -1) ∧ z = atX t 1 0 p))) := by
  refine CI_ent (d := d + 2) (Bk := bX8_at) (nL := 2) rfl rfl rfl (Nat.le_of_ble_eq_true rfl) ?_
  show Rn _ 1000000 0 [some (.ref 0), some (.int (jI p))] [] _ _
  have hn0 := (ok.f fe_1_10).1
  have hn1 := (ok.f fe_1_10).2
  refine w_step rfl ?_
  refine w_iload rfl ?_
  refine w_callS1I rfl (c_X8_isPlace ok (by omega) (by omega)) ?_
  rintro z1 t1 ⟨rfl, hp1_0⟩
  rcases hp1_0 with ⟨rfl, hp1_0⟩ | ⟨rfl, hp1_0⟩
  · skip
    refine w_ieq (by omega) (fun _ => ?_) (fun h => absurd (by omega) h)
    refine w_step rfl ?_
    refine w_push kc_m1000000001 ?_
    refine w_goto ?_
    refine w_step rfl ?_
    refine w_retI rfl ?_
    exact ⟨rfl, (by (try rcases hL with hL | hL) <;> first | (exact Or.inl ⟨by omega, by first | omega | (subst_vars; rfl)⟩) | (exact Or.inr (Or.inl ⟨by omega, by omega, by first | omega | (subst_vars; rfl)⟩)) | (exact Or.inr (Or.inr (⟨by omega, by omega, by omega⟩))))⟩
  refine w_ieq (by omega) (fun h => absurd h (by omega)) (fun _ => ?_)
  refine w_aload rfl ?_
  refine w_getR (g_0_0 _) ?_
  refine w_getR (g_1_5 _) ?_
  refine w_iload rfl ?_
  refine w_iald (i := (p).toNat) (ai_7 _) (by omega) (by omega) (ae_7 _) ok (fun z2 hz2 hl2 hh2 => ?_)
  have eh : z2 = atX t 1 0 p := by rw [hz2]; exact at_c q0 (by omega)
  refine w_callS1I rfl (c_X8_stoneOrNone ok (by omega) (by omega)) ?_
  rintro z3 t3 ⟨rfl, hp3_0⟩
  have hL := hp3_0
  refine w_goto ?_
  refine w_step rfl ?_
  refine w_retI rfl ?_
  exact ⟨rfl, (by (try rcases hL with hL | hL) <;> first | (exact Or.inl ⟨by omega, by first | omega | (subst_vars; rfl)⟩) | (exact Or.inr (Or.inl ⟨by omega, by omega, by first | omega | (subst_vars; rfl)⟩)) | (exact Or.inr (Or.inr (⟨by omega, by omega, by omega⟩))))⟩
set_option maxRecDepth 100000 in
set_option maxHeartbeats 4000000 in
theorem e_X8_bestFor {d : Nat} {t : TS} {p w : Int}  (ok : OK t) (q0 : -2147483648 ≤ p) (q1 : p ≤ 2147483647) (q2 : -2147483648 ≤ w) (q3 : w ≤ 2147483647) : CI (EX FU (d + 4)) 90 [.ref 0, .int (jI p), .int (jI w)] (mk t) (fun z t' => t = t' ∧ (((¬ (0 ≤ p ∧ p ≤ 11 ∧ 0 ≤ w ∧ w ≤ 1)) ∧ z = (-1000000001)) ∨ ((0 ≤ p ∧ p ≤ 11 ∧ 0 ≤ w ∧ w ≤ 1) ∧ z = bfA (bfF (fun s => min (OC t 1 s p.toNat 0) (OC t 1 s p.toNat 1)) (tI t 1 10).toNat) w))) := by
  refine CI_ent (d := d + 3) (Bk := bX8_bestFor) (nL := 7) rfl rfl rfl (Nat.le_of_ble_eq_true rfl) ?_
  show Rn _ 1000000 0 [some (.ref 0), some (.int (jI p)), some (.int (jI w)), none, none, none, none] [] _ _
  have hn0 := (ok.f fe_1_10).1
  have hn1 := (ok.f fe_1_10).2
  refine w_step rfl ?_
  refine w_iload rfl ?_
  refine w_callS1I rfl (c_X8_isPlace ok (by omega) (by omega)) ?_
  rintro z1 t1 ⟨rfl, hp1_0⟩
  rcases hp1_0 with ⟨rfl, hp1_0⟩ | ⟨rfl, hp1_0⟩
  · skip
    refine w_ieq (by omega) (fun _ => ?_) (fun h => absurd (by omega) h)
    refine w_step rfl ?_
    refine w_push kc_m1000000001 ?_
    refine w_retI rfl ?_
    exact ⟨rfl, (by first | (exact Or.inl ⟨by omega, by first | omega | (subst_vars; rfl)⟩) | (exact Or.inr (⟨by omega, by rw [show s.toNat = (tI t 1 10).toNat by omega] at i3_7; exact bfC_a i3_7 (by omega)⟩)))⟩
  refine w_ieq (by omega) (fun h => absurd h (by omega)) (fun _ => ?_)
  refine w_iload rfl ?_
  refine w_push kc_0 ?_
  refine w_push kc_1 ?_
  refine w_callS3I rfl (c_X8_within ok (by omega) (by omega) (by omega) (by omega) (by omega) (by omega)) ?_
  rintro z2 t2 ⟨rfl, hp2_0⟩
  rcases hp2_0 with ⟨rfl, hp2_0⟩ | ⟨rfl, hp2_0⟩
  · skip
    refine w_ine (by omega) (fun h => absurd h (by omega)) (fun _ => ?_)
    refine w_goto ?_
    refine w_step rfl ?_
    refine w_push kc_m1000000001 ?_
    refine w_retI rfl ?_
    exact ⟨rfl, (by first | (exact Or.inl ⟨by omega, by first | omega | (subst_vars; rfl)⟩) | (exact Or.inr (⟨by omega, by rw [show s.toNat = (tI t 1 10).toNat by omega] at i3_7; exact bfC_a i3_7 (by omega)⟩)))⟩
  refine w_ine (by omega) (fun _ => ?_) (fun h => absurd (by omega) h)
  refine w_step rfl ?_
  refine w_push kc_m1000000005 ?_
  refine w_istore (lv' := [some (.ref 0), some (.int (jI p)), some (.int (jI w)), some (.int (jI (-1000000005))), none, none, none]) rfl ?_
  refine w_push kc_m1000000005 ?_
  refine w_istore (lv' := [some (.ref 0), some (.int (jI p)), some (.int (jI w)), some (.int (jI (-1000000005))), some (.int (jI (-1000000005))), none, none]) rfl ?_
  refine w_push kc_0 ?_
  refine w_istore (lv' := [some (.ref 0), some (.int (jI p)), some (.int (jI w)), some (.int (jI (-1000000005))), some (.int (jI (-1000000005))), some (.int (jI 0)), none]) rfl ?_
  refine w_goto ?_
  have key3 : ∀ (n3 M3 : Nat) (least : Int) (which : Int) (s : Int) (o6 : Option Int), (-2147483648 ≤ least) → (least ≤ 2147483647) → (-2147483648 ≤ which) → (which ≤ 2147483647) → (0 ≤ s) → (s ≤ 12) → (s ≤ tI t 1 10) → (bfC (fun s => min (OC t 1 s p.toNat 0) (OC t 1 s p.toNat 1)) s.toNat least which) → 12 - s < (n3 : Int) → 60 * n3 + (1000) ≤ M3 → Rn (bX8_bestFor (EX FU (d + 3))) M3 3 [some (.ref 0), some (.int (jI p)), some (.int (jI w)), some (.int (jI least)), some (.int (jI which)), some (.int (jI s)), dv o6] [] (mk t) (PI (fun z t' => t = t' ∧ (((¬ (0 ≤ p ∧ p ≤ 11 ∧ 0 ≤ w ∧ w ≤ 1)) ∧ z = (-1000000001)) ∨ ((0 ≤ p ∧ p ≤ 11 ∧ 0 ≤ w ∧ w ≤ 1) ∧ z = bfA (bfF (fun s => min (OC t 1 s p.toNat 0) (OC t 1 s p.toNat 1)) (tI t 1 10).toNat) w)))) := by
    intro n3
    induction n3 with
    | zero => intro M3 least which s o6 i3_0 i3_1 i3_2 i3_3 i3_4 i3_5 i3_6 i3_7 v3 f3; exfalso; omega
    | succ n3 ih3 =>
      intro M3 least which s o6 i3_0 i3_1 i3_2 i3_3 i3_4 i3_5 i3_6 i3_7 v3 f3
      obtain ⟨M3, rfl⟩ : ∃ m, M3 = m + 60 := ⟨M3 - 60, by omega⟩
      refine w_step rfl ?_
      refine w_iload rfl ?_
      refine w_aload rfl ?_
      refine w_getR (g_0_0 _) ?_
      refine w_getI (g_1_10 _) fe_1_10 ok (fun z3 hz3 hl3 hh3 => ?_)
      refine w_cge (by omega) (fun h4 => ?_) (fun h4 => ?_)
      · skip
        refine w_step rfl ?_
        refine w_iload rfl ?_
        refine w_ine (by omega) (fun h5 => ?_) (fun h5 => ?_)
        · skip
          refine w_step rfl ?_
          refine w_iload rfl ?_
          refine w_goto ?_
          refine w_step rfl ?_
          refine w_retI rfl ?_
          exact ⟨rfl, (by first | (exact Or.inl ⟨by omega, by first | omega | (subst_vars; rfl)⟩) | (exact Or.inr (⟨by omega, by rw [show s.toNat = (tI t 1 10).toNat by omega] at i3_7; exact bfC_a i3_7 (by omega)⟩)))⟩
        refine w_iload rfl ?_
        refine w_goto ?_
        refine w_step rfl ?_
        refine w_retI rfl ?_
        exact ⟨rfl, (by first | (exact Or.inl ⟨by omega, by first | omega | (subst_vars; rfl)⟩) | (exact Or.inr (⟨by omega, by rw [show s.toNat = (tI t 1 10).toNat by omega] at i3_7; exact bfC_a i3_7 (by omega)⟩)))⟩
      refine w_aload rfl ?_
      refine w_getR (g_0_0 _) ?_
      refine w_iload rfl ?_
      refine w_iload rfl ?_
      refine w_callV2I (oj_1 _).choose_spec rfl (e_X4_leastOff isT1 ok (by omega) (by omega) (by omega) (by omega)) ?_
      rintro z6 t6 ⟨rfl, hp6_0, hp6_1, hp6_2⟩
      refine w_istore (lv' := [some (.ref 0), some (.int (jI p)), some (.int (jI w)), some (.int (jI least)), some (.int (jI which)), some (.int (jI s)), some (.int (jI z6))]) rfl ?_
      refine w_iload rfl ?_
      refine w_push kc_m1000000005 ?_
      refine w_ceq (by omega) (fun h7 => ?_) (fun h7 => ?_)
      · skip
        refine w_step rfl ?_
        refine w_iload rfl ?_
        refine w_istore (lv' := [some (.ref 0), some (.int (jI p)), some (.int (jI w)), some (.int (jI z6)), some (.int (jI which)), some (.int (jI s)), some (.int (jI z6))]) rfl ?_
        refine w_iload rfl ?_
        refine w_istore (lv' := [some (.ref 0), some (.int (jI p)), some (.int (jI w)), some (.int (jI z6)), some (.int (jI s)), some (.int (jI s)), some (.int (jI z6))]) rfl ?_
        refine w_goto ?_
        refine w_step rfl ?_
        refine w_iinc (lv' := [some (.ref 0), some (.int (jI p)), some (.int (jI w)), some (.int (jI z6)), some (.int (jI s)), some (.int (jI (s + 1))), some (.int (jI z6))]) kc_1 rfl rfl ?_
        refine w_goto ?_
        exact ih3 _ z6 s (s + 1) (some z6)  (by omega) (by omega) (by omega) (by omega) (by omega) (by omega) (by omega) (by first | exact i3_7.y (by omega) hp6_0 (by omega) | exact i3_7.n (by omega) hp6_0 (by omega) | omega) (by omega) (by omega)
      refine w_iload rfl ?_
      refine w_iload rfl ?_
      refine w_cge (by omega) (fun h8 => ?_) (fun h8 => ?_)
      · skip
        refine w_step rfl ?_
        refine w_iinc (lv' := [some (.ref 0), some (.int (jI p)), some (.int (jI w)), some (.int (jI least)), some (.int (jI which)), some (.int (jI (s + 1))), some (.int (jI z6))]) kc_1 rfl rfl ?_
        refine w_goto ?_
        exact ih3 _ least which (s + 1) (some z6)  (by omega) (by omega) (by omega) (by omega) (by omega) (by omega) (by omega) (by first | exact i3_7.y (by omega) hp6_0 (by omega) | exact i3_7.n (by omega) hp6_0 (by omega) | omega) (by omega) (by omega)
      refine w_goto ?_
      refine w_step rfl ?_
      refine w_iload rfl ?_
      refine w_istore (lv' := [some (.ref 0), some (.int (jI p)), some (.int (jI w)), some (.int (jI z6)), some (.int (jI which)), some (.int (jI s)), some (.int (jI z6))]) rfl ?_
      refine w_iload rfl ?_
      refine w_istore (lv' := [some (.ref 0), some (.int (jI p)), some (.int (jI w)), some (.int (jI z6)), some (.int (jI s)), some (.int (jI s)), some (.int (jI z6))]) rfl ?_
      refine w_goto ?_
      refine w_step rfl ?_
      refine w_iinc (lv' := [some (.ref 0), some (.int (jI p)), some (.int (jI w)), some (.int (jI z6)), some (.int (jI s)), some (.int (jI (s + 1))), some (.int (jI z6))]) kc_1 rfl rfl ?_
      refine w_goto ?_
      exact ih3 _ z6 s (s + 1) (some z6)  (by omega) (by omega) (by omega) (by omega) (by omega) (by omega) (by omega) (by first | exact i3_7.y (by omega) hp6_0 (by omega) | exact i3_7.n (by omega) hp6_0 (by omega) | omega) (by omega) (by omega)
  exact key3 13 _ (-1000000005) (-1000000005) 0 none  (by omega) (by omega) (by omega) (by omega) (by omega) (by omega) (by omega) (Or.inl ⟨rfl, rfl, rfl⟩) (by omega) (by omega)
set_option maxRecDepth 100000 in
set_option maxHeartbeats 4000000 in
theorem e_X8_swap {d : Nat} {t : TS}  (ok : OK t) : CI (EX FU (d + 4)) 91 [.ref 0] (mk t) (fun z t' => t = t' ∧ (z = if (swO (gnF (OC t 1) (tA t 5) (tA t 6)) (tI t 1 10).toNat (tI t 1 10).toNat).2 = -1 then -1000000005 else (swO (gnF (OC t 1) (tA t 5) (tA t 6)) (tI t 1 10).toNat (tI t 1 10).toNat).2)) := by
  refine CI_ent (d := d + 3) (Bk := bX8_swap) (nL := 6) rfl rfl rfl (Nat.le_of_ble_eq_true rfl) ?_
  show Rn _ 1000000 0 [some (.ref 0), none, none, none, none, none] [] _ _
  have hn0 := (ok.f fe_1_10).1
  have hn1 := (ok.f fe_1_10).2
  refine w_step rfl ?_
  refine w_push kc_0 ?_
  refine w_istore (lv' := [some (.ref 0), some (.int (jI 0)), none, none, none, none]) rfl ?_
  refine w_push kc_m1000000005 ?_
  refine w_istore (lv' := [some (.ref 0), some (.int (jI 0)), some (.int (jI (-1000000005))), none, none, none]) rfl ?_
  refine w_push kc_0 ?_
  refine w_istore (lv' := [some (.ref 0), some (.int (jI 0)), some (.int (jI (-1000000005))), some (.int (jI 0)), none, none]) rfl ?_
  refine w_goto ?_
  have key1 : ∀ (n1 M1 : Nat) (most : Int) (pair : Int) (x : Int) (o4 : Option Int) (o5 : Option Int), (-2147483648 ≤ most) → (most ≤ 2147483647) → (-2147483648 ≤ pair) → (pair ≤ 2147483647) → (0 ≤ x) → (x ≤ 12) → (x ≤ tI t 1 10) → (swC (-1000000005) (swO (gnF (OC t 1) (tA t 5) (tA t 6)) (tI t 1 10).toNat x.toNat) most pair) → 12 - x < (n1 : Int) → 1500 * n1 + (1000) ≤ M1 → Rn (bX8_swap (EX FU (d + 3))) M1 1 [some (.ref 0), some (.int (jI most)), some (.int (jI pair)), some (.int (jI x)), dv o4, dv o5] [] (mk t) (PI (fun z t' => t = t' ∧ (z = if (swO (gnF (OC t 1) (tA t 5) (tA t 6)) (tI t 1 10).toNat (tI t 1 10).toNat).2 = -1 then -1000000005 else (swO (gnF (OC t 1) (tA t 5) (tA t 6)) (tI t 1 10).toNat (tI t 1 10).toNat).2))) := by
    intro n1
    induction n1 with
    | zero => intro M1 most pair x o4 o5 i1_0 i1_1 i1_2 i1_3 i1_4 i1_5 i1_6 i1_7 v1 f1; exfalso; omega
    | succ n1 ih1 =>
      intro M1 most pair x o4 o5 i1_0 i1_1 i1_2 i1_3 i1_4 i1_5 i1_6 i1_7 v1 f1
      obtain ⟨M1, rfl⟩ : ∃ m, M1 = m + 1500 := ⟨M1 - 1500, by omega⟩
      refine w_step rfl ?_
      refine w_iload rfl ?_
      refine w_aload rfl ?_
      refine w_getR (g_0_0 _) ?_
      refine w_getI (g_1_10 _) fe_1_10 ok (fun z1 hz1 hl1 hh1 => ?_)
      refine w_cge (by omega) (fun h2 => ?_) (fun h2 => ?_)
      · skip
        refine w_step rfl ?_
        refine w_iload rfl ?_
        refine w_retI rfl ?_
        exact ⟨rfl, (by rw [show x.toNat = (tI t 1 10).toNat by omega] at i1_7; exact swC_a i1_7 (Or.inl rfl) (Or.inl ⟨rfl, rfl⟩))⟩
      refine w_iload rfl ?_
      refine w_push kc_1 ?_
      refine w_add ?_
      refine w_istore (lv' := [some (.ref 0), some (.int (jI most)), some (.int (jI pair)), some (.int (jI x)), some (.int (jI (x + 1))), dv o5]) rfl ?_
      refine w_goto ?_
      have key2 : ∀ (n2 M2 : Nat) (most : Int) (pair : Int) (y : Int) (o5 : Option Int), (-2147483648 ≤ most) → (most ≤ 2147483647) → (-2147483648 ≤ pair) → (pair ≤ 2147483647) → (x + 1 ≤ y) → (y ≤ tI t 1 10) → (swC (-1000000005) (swI ((gnF (OC t 1) (tA t 5) (tA t 6)) x.toNat) x.toNat (y - x - 1).toNat (swO (gnF (OC t 1) (tA t 5) (tA t 6)) (tI t 1 10).toNat x.toNat)) most pair) → 13 - y < (n2 : Int) → 60 * n2 + (1500 * n1 + 1000) ≤ M2 → Rn (bX8_swap (EX FU (d + 3))) M2 2 [some (.ref 0), some (.int (jI most)), some (.int (jI pair)), some (.int (jI x)), some (.int (jI y)), dv o5] [] (mk t) (PI (fun z t' => t = t' ∧ (z = if (swO (gnF (OC t 1) (tA t 5) (tA t 6)) (tI t 1 10).toNat (tI t 1 10).toNat).2 = -1 then -1000000005 else (swO (gnF (OC t 1) (tA t 5) (tA t 6)) (tI t 1 10).toNat (tI t 1 10).toNat).2))) := by
        intro n2
        induction n2 with
        | zero => intro M2 most pair y o5 i2_0 i2_1 i2_2 i2_3 i2_4 i2_5 i2_6 v2 f2; exfalso; omega
        | succ n2 ih2 =>
          intro M2 most pair y o5 i2_0 i2_1 i2_2 i2_3 i2_4 i2_5 i2_6 v2 f2
          obtain ⟨M2, rfl⟩ : ∃ m, M2 = m + 60 := ⟨M2 - 60, by omega⟩
          refine w_step rfl ?_
          refine w_iload rfl ?_
          refine w_aload rfl ?_
          refine w_getR (g_0_0 _) ?_
          refine w_getI (g_1_10 _) fe_1_10 ok (fun z3 hz3 hl3 hh3 => ?_)
          refine w_cge (by omega) (fun h4 => ?_) (fun h4 => ?_)
          · skip
            refine w_step rfl ?_
            refine w_iinc (lv' := [some (.ref 0), some (.int (jI most)), some (.int (jI pair)), some (.int (jI (x + 1))), some (.int (jI y)), dv o5]) kc_1 rfl rfl ?_
            refine w_goto ?_
            exact ih1 _ most pair (x + 1) (some y) o5  (by omega) (by omega) (by omega) (by omega) (by omega) (by omega) (by omega) (i2_6.o (by omega) (by omega)) (by omega) (by omega)
          refine w_aload rfl ?_
          refine w_getR (g_0_0 _) ?_
          refine w_iload rfl ?_
          refine w_iload rfl ?_
          refine w_callV2I (oj_1 _).choose_spec rfl (e_X4_gainOfChange isT1 ok (by omega) (by omega) (by omega) (by omega)) ?_
          rintro z5 t5 ⟨rfl, hp5_0, hp5_1, hp5_2⟩
          refine w_istore (lv' := [some (.ref 0), some (.int (jI most)), some (.int (jI pair)), some (.int (jI x)), some (.int (jI y)), some (.int (jI z5))]) rfl ?_
          refine w_iload rfl ?_
          refine w_iload rfl ?_
          refine w_cle (by omega) (fun h6 => ?_) (fun h6 => ?_)
          · skip
            refine w_step rfl ?_
            refine w_iinc (lv' := [some (.ref 0), some (.int (jI most)), some (.int (jI pair)), some (.int (jI x)), some (.int (jI (y + 1))), some (.int (jI z5))]) kc_1 rfl rfl ?_
            refine w_goto ?_
            exact ih2 _ most pair (y + 1) (some z5)  (by omega) (by omega) (by omega) (by omega) (by omega) (by omega) (by first | exact i2_6.y (by omega) hp5_2 (by omega) | exact i2_6.n (by omega) hp5_2 (by omega) | omega) (by omega) (by omega)
          refine w_iload rfl ?_
          refine w_istore (lv' := [some (.ref 0), some (.int (jI z5)), some (.int (jI pair)), some (.int (jI x)), some (.int (jI y)), some (.int (jI z5))]) rfl ?_
          refine w_push kc_100 ?_
          refine w_iload rfl ?_
          refine w_mul ?_
          refine w_iload rfl ?_
          refine w_add ?_
          refine w_istore (lv' := [some (.ref 0), some (.int (jI z5)), some (.int (jI ((100 * x) + y))), some (.int (jI x)), some (.int (jI y)), some (.int (jI z5))]) rfl ?_
          refine w_goto ?_
          refine w_step rfl ?_
          refine w_iinc (lv' := [some (.ref 0), some (.int (jI z5)), some (.int (jI ((100 * x) + y))), some (.int (jI x)), some (.int (jI (y + 1))), some (.int (jI z5))]) kc_1 rfl rfl ?_
          refine w_goto ?_
          exact ih2 _ z5 ((100 * x) + y) (y + 1) (some z5)  (by omega) (by omega) (by omega) (by omega) (by omega) (by omega) (by first | exact i2_6.y (by omega) hp5_2 (by omega) | exact i2_6.n (by omega) hp5_2 (by omega) | omega) (by omega) (by omega)
      exact key2 14 _ most pair (x + 1) o5  (by omega) (by omega) (by omega) (by omega) (by omega) (by omega) i1_7.i (by omega) (by omega)
  exact key1 13 _ 0 (-1000000005) 0 none none  (by omega) (by omega) (by omega) (by omega) (by omega) (by omega) (by omega) ⟨rfl, Or.inl ⟨rfl, rfl⟩⟩ (by omega) (by omega)
end
section
set_option maxRecDepth 100000 in
set_option maxHeartbeats 4000000 in
theorem e_X8_knocked {d : Nat} {t : TS} {p : Int}  (ok : OK t) (q0 : HCt t 1) (q1 : -2147483648 ≤ p) (q2 : p ≤ 2147483647) : CI (EX FU (d + 4)) 92 [.ref 0, .int (jI p)] (mk t) (fun z t' => t = t' ∧ (((¬ (0 ≤ p ∧ p ≤ 11)) ∧ z = (-1000000001)) ∨ ((0 ≤ p ∧ p ≤ 11) ∧ z = flF (hvT t 1) (HF (CP t 1).1 (tI t 1 10).toNat) p.toNat))) := by
  refine CI_ent (d := d + 3) (Bk := bX8_knocked) (nL := 2) rfl rfl rfl (Nat.le_of_ble_eq_true rfl) ?_
  show Rn _ 1000000 0 [some (.ref 0), some (.int (jI p))] [] _ _
  have hn0 := (ok.f fe_1_10).1
  have hn1 := (ok.f fe_1_10).2
  refine w_step rfl ?_
  refine w_iload rfl ?_
  refine w_callS1I rfl (c_X8_isPlace ok (by omega) (by omega)) ?_
  rintro z1 t1 ⟨rfl, hp1_0⟩
  rcases hp1_0 with ⟨rfl, hp1_0⟩ | ⟨rfl, hp1_0⟩
  · skip
    refine w_ieq (by omega) (fun _ => ?_) (fun h => absurd (by omega) h)
    refine w_step rfl ?_
    refine w_push kc_m1000000001 ?_
    refine w_goto ?_
    refine w_step rfl ?_
    refine w_retI rfl ?_
    exact ⟨rfl, (by first | (exact Or.inl ⟨by omega, by first | omega | (subst_vars; rfl)⟩) | (exact Or.inr (⟨by omega, by rw [hp99qq_2]; exact fl_c q0 (by omega)⟩)))⟩
  refine w_ieq (by omega) (fun h => absurd h (by omega)) (fun _ => ?_)
  refine w_aload rfl ?_
  refine w_getR (g_0_0 _) ?_
  refine w_iload rfl ?_
  refine w_callV1I (oj_1 _).choose_spec rfl (e_X4_fallFrom isT1 ok (by omega) (by omega)) ?_
  rintro z2 t2 ⟨rfl, hp2_0, hp2_1, hp2_2⟩
  refine w_goto ?_
  refine w_step rfl ?_
  refine w_retI rfl ?_
  exact ⟨rfl, (by first | (exact Or.inl ⟨by omega, by first | omega | (subst_vars; rfl)⟩) | (exact Or.inr (⟨by omega, by rw [hp2_2]; exact fl_c q0 (by omega)⟩)))⟩
set_option maxRecDepth 100000 in
set_option maxHeartbeats 4000000 in
theorem e_X8_push {d : Nat} {t : TS} {w : Int}  (ok : OK t) (q0 : HCt t 1) (q1 : -2147483648 ≤ w) (q2 : w ≤ 2147483647) : CI (EX FU (d + 4)) 93 [.ref 0, .int (jI w)] (mk t) (fun z t' => t = t' ∧ (((¬ (0 ≤ w ∧ w ≤ 1)) ∧ z = (-1000000001)) ∨ ((w = 0) ∧ z = (psF (fun p => flF (hvT t 1) (HF (CP t 1).1 (tI t 1 10).toNat) p) 11).1) ∨ ((w = 1) ∧ z = (psF (fun p => flF (hvT t 1) (HF (CP t 1).1 (tI t 1 10).toNat) p) 11).2))) := by
  refine CI_ent (d := d + 3) (Bk := bX8_push) (nL := 6) rfl rfl rfl (Nat.le_of_ble_eq_true rfl) ?_
  show Rn _ 1000000 0 [some (.ref 0), some (.int (jI w)), none, none, none, none] [] _ _
  have hn0 := (ok.f fe_1_10).1
  have hn1 := (ok.f fe_1_10).2
  refine w_step rfl ?_
  refine w_iload rfl ?_
  refine w_push kc_0 ?_
  refine w_push kc_1 ?_
  refine w_callS3I rfl (c_X8_within ok (by omega) (by omega) (by omega) (by omega) (by omega) (by omega)) ?_
  rintro z1 t1 ⟨rfl, hp1_0⟩
  rcases hp1_0 with ⟨rfl, hp1_0⟩ | ⟨rfl, hp1_0⟩
  · skip
    refine w_ine (by omega) (fun h => absurd h (by omega)) (fun _ => ?_)
    refine w_push kc_m1000000001 ?_
    refine w_retI rfl ?_
    exact ⟨rfl, (by first | (exact Or.inl ⟨by omega, by first | omega | (subst_vars; rfl)⟩) | (exact Or.inr (Or.inl ⟨by omega, by have e := i2_6; rw [show p = 12 by omega] at e; first | exact e.1 | exact e.2⟩)) | (exact Or.inr (Or.inr (⟨by omega, by have e := i2_6; rw [show p = 12 by omega] at e; first | exact e.1 | exact e.2⟩))))⟩
  refine w_ine (by omega) (fun _ => ?_) (fun h => absurd (by omega) h)
  refine w_step rfl ?_
  refine w_aload rfl ?_
  refine w_getR (g_0_0 _) ?_
  refine w_push kc_0 ?_
  refine w_callV1I (oj_1 _).choose_spec rfl (e_X4_fallFrom isT1 ok (by omega) (by omega)) ?_
  rintro z2 t2 ⟨rfl, hp2_0, hp2_1, hp2_2⟩
  have ef0 : z2 = flF (hvT t 1) (HF (CP t 1).1 (tI t 1 10).toNat) 0 := by rw [hp2_2]; exact fl_c q0 (by omega)
  refine w_istore (lv' := [some (.ref 0), some (.int (jI w)), some (.int (jI z2)), none, none, none]) rfl ?_
  refine w_push kc_0 ?_
  refine w_istore (lv' := [some (.ref 0), some (.int (jI w)), some (.int (jI z2)), some (.int (jI 0)), none, none]) rfl ?_
  refine w_push kc_1 ?_
  refine w_istore (lv' := [some (.ref 0), some (.int (jI w)), some (.int (jI z2)), some (.int (jI 0)), some (.int (jI 1)), none]) rfl ?_
  refine w_goto ?_
  have key2 : ∀ (n2 M2 : Nat) (most : Int) (fro : Int) (p : Int) (o5 : Option Int), (0 ≤ most) → (most ≤ 12) → (0 ≤ fro) → (fro ≤ 12) → (1 ≤ p) → (p ≤ 12) → (psP (fun p => flF (hvT t 1) (HF (CP t 1).1 (tI t 1 10).toNat) p) p fro most) → 12 - p < (n2 : Int) → 60 * n2 + (1000) ≤ M2 → Rn (bX8_push (EX FU (d + 3))) M2 2 [some (.ref 0), some (.int (jI w)), some (.int (jI most)), some (.int (jI fro)), some (.int (jI p)), dv o5] [] (mk t) (PI (fun z t' => t = t' ∧ (((¬ (0 ≤ w ∧ w ≤ 1)) ∧ z = (-1000000001)) ∨ ((w = 0) ∧ z = (psF (fun p => flF (hvT t 1) (HF (CP t 1).1 (tI t 1 10).toNat) p) 11).1) ∨ ((w = 1) ∧ z = (psF (fun p => flF (hvT t 1) (HF (CP t 1).1 (tI t 1 10).toNat) p) 11).2)))) := by
    intro n2
    induction n2 with
    | zero => intro M2 most fro p o5 i2_0 i2_1 i2_2 i2_3 i2_4 i2_5 i2_6 v2 f2; exfalso; omega
    | succ n2 ih2 =>
      intro M2 most fro p o5 i2_0 i2_1 i2_2 i2_3 i2_4 i2_5 i2_6 v2 f2
      obtain ⟨M2, rfl⟩ : ∃ m, M2 = m + 60 := ⟨M2 - 60, by omega⟩
      refine w_step rfl ?_
      refine w_iload rfl ?_
      refine w_push kc_12 ?_
      refine w_cge (by omega) (fun h3 => ?_) (fun h3 => ?_)
      · skip
        refine w_step rfl ?_
        refine w_iload rfl ?_
        refine w_ine (by omega) (fun h4 => ?_) (fun h4 => ?_)
        · skip
          refine w_step rfl ?_
          refine w_iload rfl ?_
          refine w_goto ?_
          refine w_step rfl ?_
          refine w_retI rfl ?_
          exact ⟨rfl, (by first | (exact Or.inl ⟨by omega, by first | omega | (subst_vars; rfl)⟩) | (exact Or.inr (Or.inl ⟨by omega, by have e := i2_6; rw [show p = 12 by omega] at e; first | exact e.1 | exact e.2⟩)) | (exact Or.inr (Or.inr (⟨by omega, by have e := i2_6; rw [show p = 12 by omega] at e; first | exact e.1 | exact e.2⟩))))⟩
        refine w_iload rfl ?_
        refine w_goto ?_
        refine w_step rfl ?_
        refine w_retI rfl ?_
        exact ⟨rfl, (by first | (exact Or.inl ⟨by omega, by first | omega | (subst_vars; rfl)⟩) | (exact Or.inr (Or.inl ⟨by omega, by have e := i2_6; rw [show p = 12 by omega] at e; first | exact e.1 | exact e.2⟩)) | (exact Or.inr (Or.inr (⟨by omega, by have e := i2_6; rw [show p = 12 by omega] at e; first | exact e.1 | exact e.2⟩))))⟩
      refine w_aload rfl ?_
      refine w_getR (g_0_0 _) ?_
      refine w_iload rfl ?_
      refine w_callV1I (oj_1 _).choose_spec rfl (e_X4_fallFrom isT1 ok (by omega) (by omega)) ?_
      rintro z5 t5 ⟨rfl, hp5_0, hp5_1, hp5_2⟩
      have ef : z5 = (fun p => flF (hvT t 1) (HF (CP t 1).1 (tI t 1 10).toNat) p) p.toNat := by rw [hp5_2]; exact fl_c q0 (by omega)
      refine w_istore (lv' := [some (.ref 0), some (.int (jI w)), some (.int (jI most)), some (.int (jI fro)), some (.int (jI p)), some (.int (jI z5))]) rfl ?_
      refine w_iload rfl ?_
      refine w_iload rfl ?_
      refine w_cle (by omega) (fun h6 => ?_) (fun h6 => ?_)
      · skip
        refine w_step rfl ?_
        refine w_iinc (lv' := [some (.ref 0), some (.int (jI w)), some (.int (jI most)), some (.int (jI fro)), some (.int (jI (p + 1))), some (.int (jI z5))]) kc_1 rfl rfl ?_
        refine w_goto ?_
        exact ih2 _ most fro (p + 1) (some z5)  (by omega) (by omega) (by omega) (by omega) (by omega) (by omega) (by first | exact i2_6.y (by omega) ef (by omega) | exact i2_6.n (by omega) ef (by omega) | omega) (by omega) (by omega)
      refine w_iload rfl ?_
      refine w_istore (lv' := [some (.ref 0), some (.int (jI w)), some (.int (jI z5)), some (.int (jI fro)), some (.int (jI p)), some (.int (jI z5))]) rfl ?_
      refine w_iload rfl ?_
      refine w_istore (lv' := [some (.ref 0), some (.int (jI w)), some (.int (jI z5)), some (.int (jI p)), some (.int (jI p)), some (.int (jI z5))]) rfl ?_
      refine w_goto ?_
      refine w_step rfl ?_
      refine w_iinc (lv' := [some (.ref 0), some (.int (jI w)), some (.int (jI z5)), some (.int (jI p)), some (.int (jI (p + 1))), some (.int (jI z5))]) kc_1 rfl rfl ?_
      refine w_goto ?_
      exact ih2 _ z5 p (p + 1) (some z5)  (by omega) (by omega) (by omega) (by omega) (by omega) (by omega) (by first | exact i2_6.y (by omega) ef (by omega) | exact i2_6.n (by omega) ef (by omega) | omega) (by omega) (by omega)
  exact key2 13 _ z2 0 1 none  (by omega) (by omega) (by omega) (by omega) (by omega) (by omega) ⟨rfl, ef0⟩ (by omega) (by omega)
set_option maxRecDepth 100000 in
set_option maxHeartbeats 4000000 in
theorem e_X8_behind {d : Nat} {t : TS} {n w : Int}  (ok : OK t) (q0 : HCt t 1) (q1 : -2147483648 ≤ n) (q2 : n ≤ 2147483647) (q3 : -2147483648 ≤ w) (q4 : w ≤ 2147483647) : CI (EX FU (d + 7)) 94 [.ref 0, .int (jI n), .int (jI w)] (mk t) (fun z t' => OK t' ∧ Fr [(24, 10), (24, 11), (24, 12), (24, 13), (24, 14), (25, 100), (26, 100), (27, 100), (28, 100), (29, 100), (30, 100), (31, 100), (32, 100), (34, 100), (33, 101)] t t' ∧ (((¬ (0 ≤ n ∧ n ≤ 100 ∧ 0 ≤ w ∧ w ≤ 14)) ∧ z = (-1000000001)) ∨ ((0 ≤ n ∧ n ≤ 100) ∧ (w = 0) ∧ z = pcX t 1 n.toNat) ∨ ((0 ≤ n ∧ n ≤ 100) ∧ (w = 1) ∧ z = mtX t 1 n.toNat) ∨ ((0 ≤ n ∧ n ≤ 100) ∧ (w = 2) ∧ z = cnX t 1 n.toNat) ∨ ((0 ≤ n ∧ n ≤ 100) ∧ (3 ≤ w ∧ w ≤ 14) ∧ (atX t 1 n.toNat (w - 3) = -1) ∧ z = (-1000000005)) ∨ ((0 ≤ n ∧ n ≤ 100) ∧ (3 ≤ w ∧ w ≤ 14) ∧ (¬ atX t 1 n.toNat (w - 3) = -1) ∧ z = atX t 1 n.toNat (w - 3)))) := by
  refine CI_ent (d := d + 6) (Bk := bX8_behind) (nL := 4) rfl rfl rfl (Nat.le_of_ble_eq_true rfl) ?_
  show Rn _ 1000000 0 [some (.ref 0), some (.int (jI n)), some (.int (jI w)), none] [] _ _
  have fr : Fr [(24, 10), (24, 11), (24, 12), (24, 13), (24, 14), (25, 100), (26, 100), (27, 100), (28, 100), (29, 100), (30, 100), (31, 100), (32, 100), (34, 100), (33, 101)] t t := Fr.rf _ _
  have hn0 := (ok.f fe_1_10).1
  have hn1 := (ok.f fe_1_10).2
  refine w_step rfl ?_
  refine w_iload rfl ?_
  refine w_push kc_0 ?_
  refine w_push kc_100 ?_
  refine w_callS3I rfl (c_X8_within ok (by omega) (by omega) (by omega) (by omega) (by omega) (by omega)) ?_
  rintro z1 t1 ⟨rfl, hp1_0⟩
  rcases hp1_0 with ⟨rfl, hp1_0⟩ | ⟨rfl, hp1_0⟩
  · skip
    refine w_ieq (by omega) (fun _ => ?_) (fun h => absurd (by omega) h)
    refine w_step rfl ?_
    refine w_push kc_m1000000001 ?_
    refine w_retI rfl ?_
    exact ⟨ok, fr, (by (try rcases hL with hL | hL) <;> first | (exact Or.inl ⟨by omega, by first | omega | (subst_vars; rfl)⟩) | (exact Or.inr (Or.inl ⟨by omega, by omega, by rw [hp99qq_2]; exact bh_pic bh ok⟩)) | (exact Or.inr (Or.inr (Or.inl ⟨by omega, by omega, by rw [hp99qq_2]; exact bh_mat bh (by omega)⟩))) | (exact Or.inr (Or.inr (Or.inr (Or.inl ⟨by omega, by omega, by rw [hp99qq_0]; exact bh_cn bh⟩)))) | (exact Or.inr (Or.inr (Or.inr (Or.inr (Or.inl ⟨by omega, by omega, by omega, by first | omega | (subst_vars; rfl)⟩))))) | (exact Or.inr (Or.inr (Or.inr (Or.inr (Or.inr (⟨by omega, by omega, by omega, by omega⟩)))))))⟩
  refine w_ieq (by omega) (fun h => absurd h (by omega)) (fun _ => ?_)
  refine w_iload rfl ?_
  refine w_push kc_0 ?_
  refine w_push kc_14 ?_
  refine w_callS3I rfl (c_X8_within ok (by omega) (by omega) (by omega) (by omega) (by omega) (by omega)) ?_
  rintro z2 t2 ⟨rfl, hp2_0⟩
  rcases hp2_0 with ⟨rfl, hp2_0⟩ | ⟨rfl, hp2_0⟩
  · skip
    refine w_ine (by omega) (fun h => absurd h (by omega)) (fun _ => ?_)
    refine w_goto ?_
    refine w_step rfl ?_
    refine w_push kc_m1000000001 ?_
    refine w_retI rfl ?_
    exact ⟨ok, fr, (by (try rcases hL with hL | hL) <;> first | (exact Or.inl ⟨by omega, by first | omega | (subst_vars; rfl)⟩) | (exact Or.inr (Or.inl ⟨by omega, by omega, by rw [hp99qq_2]; exact bh_pic bh ok⟩)) | (exact Or.inr (Or.inr (Or.inl ⟨by omega, by omega, by rw [hp99qq_2]; exact bh_mat bh (by omega)⟩))) | (exact Or.inr (Or.inr (Or.inr (Or.inl ⟨by omega, by omega, by rw [hp99qq_0]; exact bh_cn bh⟩)))) | (exact Or.inr (Or.inr (Or.inr (Or.inr (Or.inl ⟨by omega, by omega, by omega, by first | omega | (subst_vars; rfl)⟩))))) | (exact Or.inr (Or.inr (Or.inr (Or.inr (Or.inr (⟨by omega, by omega, by omega, by omega⟩)))))))⟩
  refine w_ine (by omega) (fun _ => ?_) (fun h => absurd (by omega) h)
  refine w_step rfl ?_
  refine w_aload rfl ?_
  refine w_getR (g_0_2 _) ?_
  refine w_aload rfl ?_
  refine w_getR (g_0_0 _) ?_
  refine w_iload rfl ?_
  refine w_callV2R (oj_23 _).choose_spec rfl (e_X7_behindDays_tab ok (by omega) (by omega) (by omega)) ?_ ?_
  · rintro t3 ⟨ok3, fq3, hp3_0, hp3_1⟩; cases hp3_0
  rintro r3 t3 ⟨ok3, fq3, hp3_0, hp3_1⟩
  cases hp3_0
  have fr3 := fr.then fq3 (by simp)
  have bh := hp3_1
  refine w_astore (lv' := [some (.ref 0), some (.int (jI n)), some (.int (jI w)), some (.ref 24)]) rfl ?_
  refine w_iload rfl ?_
  have hs4 : w = 0 ∨ w = 1 ∨ w = 2 ∨ (w < 0 ∨ 0 + 3 ≤ w) := (by omega)
  rcases hs4 with hs4 | hs4 | hs4 | hs4
  · refine w_sw (n := 3) (tsw_at hs4 (by decide)) ?_
    refine w_step rfl ?_
    refine w_aload rfl ?_
    refine w_callV0I (oj_24 _).choose_spec rfl (e_X4_picture isT24 ok3) ?_
    rintro z5 t5 ⟨rfl, hp5_0, hp5_1, hp5_2⟩
    refine w_retI rfl ?_
    exact ⟨ok3, fr3, (by (try rcases hL with hL | hL) <;> first | (exact Or.inl ⟨by omega, by first | omega | (subst_vars; rfl)⟩) | (exact Or.inr (Or.inl ⟨by omega, by omega, by rw [hp5_2]; exact bh_pic bh ok3⟩)) | (exact Or.inr (Or.inr (Or.inl ⟨by omega, by omega, by rw [hp5_2]; exact bh_mat bh (by omega)⟩))) | (exact Or.inr (Or.inr (Or.inr (Or.inl ⟨by omega, by omega, by rw [hp5_0]; exact bh_cn bh⟩)))) | (exact Or.inr (Or.inr (Or.inr (Or.inr (Or.inl ⟨by omega, by omega, by omega, by first | omega | (subst_vars; rfl)⟩))))) | (exact Or.inr (Or.inr (Or.inr (Or.inr (Or.inr (⟨by omega, by omega, by omega, by omega⟩)))))))⟩
  · refine w_sw (n := 4) (tsw_at hs4 (by decide)) ?_
    refine w_step rfl ?_
    refine w_aload rfl ?_
    refine w_callV0I (oj_24 _).choose_spec rfl (e_X4_matches isT24 ok3) ?_
    rintro z6 t6 ⟨rfl, hp6_0, hp6_1, hp6_2⟩
    refine w_retI rfl ?_
    exact ⟨ok3, fr3, (by (try rcases hL with hL | hL) <;> first | (exact Or.inl ⟨by omega, by first | omega | (subst_vars; rfl)⟩) | (exact Or.inr (Or.inl ⟨by omega, by omega, by rw [hp6_2]; exact bh_pic bh ok3⟩)) | (exact Or.inr (Or.inr (Or.inl ⟨by omega, by omega, by rw [hp6_2]; exact bh_mat bh (by omega)⟩))) | (exact Or.inr (Or.inr (Or.inr (Or.inl ⟨by omega, by omega, by rw [hp6_0]; exact bh_cn bh⟩)))) | (exact Or.inr (Or.inr (Or.inr (Or.inr (Or.inl ⟨by omega, by omega, by omega, by first | omega | (subst_vars; rfl)⟩))))) | (exact Or.inr (Or.inr (Or.inr (Or.inr (Or.inr (⟨by omega, by omega, by omega, by omega⟩)))))))⟩
  · refine w_sw (n := 5) (tsw_at hs4 (by decide)) ?_
    refine w_step rfl ?_
    refine w_aload rfl ?_
    refine w_callV0I (oj_24 _).choose_spec rfl (e_X4_laidStones isT24 ok3) ?_
    rintro z7 t7 ⟨rfl, hp7_0, hp7_1, hp7_2⟩
    refine w_retI rfl ?_
    exact ⟨ok3, fr3, (by (try rcases hL with hL | hL) <;> first | (exact Or.inl ⟨by omega, by first | omega | (subst_vars; rfl)⟩) | (exact Or.inr (Or.inl ⟨by omega, by omega, by rw [hp7_2]; exact bh_pic bh ok3⟩)) | (exact Or.inr (Or.inr (Or.inl ⟨by omega, by omega, by rw [hp7_2]; exact bh_mat bh (by omega)⟩))) | (exact Or.inr (Or.inr (Or.inr (Or.inl ⟨by omega, by omega, by rw [hp7_0]; exact bh_cn bh⟩)))) | (exact Or.inr (Or.inr (Or.inr (Or.inr (Or.inl ⟨by omega, by omega, by omega, by first | omega | (subst_vars; rfl)⟩))))) | (exact Or.inr (Or.inr (Or.inr (Or.inr (Or.inr (⟨by omega, by omega, by omega, by omega⟩)))))))⟩
  · refine w_sw (n := 6) (tsw_df (m := 3) rfl (by omega) (by omega)) ?_
    refine w_step rfl ?_
    refine w_aload rfl ?_
    refine w_getR (g_24_5 _) ?_
    refine w_iload rfl ?_
    refine w_push kc_3 ?_
    refine w_sub ?_
    refine w_iald (i := ((w - 3)).toNat) (ai_30 _) (by omega) (by omega) (ae_30 _) ok3 (fun z8 hz8 hl8 hh8 => ?_)
    have eh : z8 = atX t 1 n.toNat (w - 3) := by
      rw [hz8]
      refine (bh_at bh (p := (w - 3).toNat) (by omega)).trans ?_
      unfold atX
      congr 1
      omega
    refine w_callS1I rfl (c_X8_stoneOrNone ok3 (by omega) (by omega)) ?_
    rintro z9 t9 ⟨rfl, hp9_0⟩
    have hL := hp9_0
    refine w_retI rfl ?_
    exact ⟨ok3, fr3, (by (try rcases hL with hL | hL) <;> first | (exact Or.inl ⟨by omega, by first | omega | (subst_vars; rfl)⟩) | (exact Or.inr (Or.inl ⟨by omega, by omega, by rw [hp99qq_2]; exact bh_pic bh ok3⟩)) | (exact Or.inr (Or.inr (Or.inl ⟨by omega, by omega, by rw [hp99qq_2]; exact bh_mat bh (by omega)⟩))) | (exact Or.inr (Or.inr (Or.inr (Or.inl ⟨by omega, by omega, by rw [hp99qq_0]; exact bh_cn bh⟩)))) | (exact Or.inr (Or.inr (Or.inr (Or.inr (Or.inl ⟨by omega, by omega, by omega, by first | omega | (subst_vars; rfl)⟩))))) | (exact Or.inr (Or.inr (Or.inr (Or.inr (Or.inr (⟨by omega, by omega, by omega, by omega⟩)))))))⟩
set_option maxRecDepth 100000 in
set_option maxHeartbeats 4000000 in
theorem e_X8_laid {d : Nat} {t : TS}  (ok : OK t) (q0 : HCt t 1) : CI (EX FU (d + 6)) 95 [.ref 0] (mk t) (fun z t' => OK t' ∧ Fr [(24, 10), (24, 11), (24, 12), (24, 13), (24, 14), (25, 100), (26, 100), (27, 100), (28, 100), (29, 100), (30, 100), (31, 100), (32, 100), (34, 100), (33, 101)] t t' ∧ (FsP (fun m => (cnX t 1 m = 12 ∨ cnX t 1 m = tI t 1 10)) 201 z)) := by
  refine CI_ent (d := d + 5) (Bk := bX8_laid) (nL := 1) rfl rfl rfl (Nat.le_of_ble_eq_true rfl) ?_
  show Rn _ 1000000 0 [some (.ref 0)] [] _ _
  have fr : Fr [(24, 10), (24, 11), (24, 12), (24, 13), (24, 14), (25, 100), (26, 100), (27, 100), (28, 100), (29, 100), (30, 100), (31, 100), (32, 100), (34, 100), (33, 101)] t t := Fr.rf _ _
  have hn0 := (ok.f fe_1_10).1
  have hn1 := (ok.f fe_1_10).2
  refine w_step rfl ?_
  refine w_aload rfl ?_
  refine w_getR (g_0_2 _) ?_
  refine w_aload rfl ?_
  refine w_getR (g_0_0 _) ?_
  refine w_callV1I (oj_23 _).choose_spec rfl (e_X7_daysTillLaid ok (by omega)) ?_
  rintro z1 t1 ⟨ok1, fq1, hp1_0, hp1_1, hp1_2⟩
  have fr1 := fr.then fq1 (by simp)
  refine w_retI rfl ?_
  exact ⟨ok1, fr1, hp1_2⟩
end
section
set_option maxRecDepth 100000 in
set_option maxHeartbeats 4000000 in
theorem e_X8_lost {d : Nat} {t : TS} {n w : Int}  (ok : OK t) (q0 : HCt t 1) (q1 : -2147483648 ≤ n) (q2 : n ≤ 2147483647) (q3 : -2147483648 ≤ w) (q4 : w ≤ 2147483647) : CI (EX FU (d + 7)) 96 [.ref 0, .int (jI n), .int (jI w)] (mk t) (fun z t' => OK t' ∧ Fr [(24, 10), (24, 11), (24, 12), (24, 13), (24, 14), (25, 100), (26, 100), (27, 100), (28, 100), (29, 100), (30, 100), (31, 100), (32, 100), (34, 100), (33, 101)] t t' ∧ (((¬ (0 ≤ n ∧ n ≤ 60 ∧ 0 ≤ w ∧ w ≤ 1)) ∧ z = (-1000000001)) ∨ ((0 ≤ n ∧ n ≤ 60 ∧ 0 ≤ w ∧ w ≤ 1) ∧ z = bfA (bfF (fun s => picG (tI t 1 10).toNat (OC t 1) (dysF (tI t 1 10).toNat (OC t 1) (tI t 1 12) (tI t 1 14) n.toNat (upF (tA t 5) s 13, tA t 6))) (tI t 1 10).toNat) w))) := by
  refine CI_ent (d := d + 6) (Bk := bX8_lost) (nL := 7) rfl rfl rfl (Nat.le_of_ble_eq_true rfl) ?_
  show Rn _ 1000000 0 [some (.ref 0), some (.int (jI n)), some (.int (jI w)), none, none, none, none] [] _ _
  have fr : Fr [(24, 10), (24, 11), (24, 12), (24, 13), (24, 14), (25, 100), (26, 100), (27, 100), (28, 100), (29, 100), (30, 100), (31, 100), (32, 100), (34, 100), (33, 101)] t t := Fr.rf _ _
  have hn0 := (ok.f fe_1_10).1
  have hn1 := (ok.f fe_1_10).2
  refine w_step rfl ?_
  refine w_iload rfl ?_
  refine w_push kc_0 ?_
  refine w_push kc_60 ?_
  refine w_callS3I rfl (c_X8_within ok (by omega) (by omega) (by omega) (by omega) (by omega) (by omega)) ?_
  rintro z1 t1 ⟨rfl, hp1_0⟩
  rcases hp1_0 with ⟨rfl, hp1_0⟩ | ⟨rfl, hp1_0⟩
  · skip
    refine w_ieq (by omega) (fun _ => ?_) (fun h => absurd (by omega) h)
    refine w_step rfl ?_
    refine w_push kc_m1000000001 ?_
    refine w_retI rfl ?_
    exact ⟨ok, fr, (by first | (exact Or.inl ⟨by omega, by first | omega | (subst_vars; rfl)⟩) | (exact Or.inr (⟨by omega, by rw [show s.toNat = (tI t 1 10).toNat by omega] at i3_7; exact bfC_a i3_7 (by omega)⟩)))⟩
  refine w_ieq (by omega) (fun h => absurd h (by omega)) (fun _ => ?_)
  refine w_iload rfl ?_
  refine w_push kc_0 ?_
  refine w_push kc_1 ?_
  refine w_callS3I rfl (c_X8_within ok (by omega) (by omega) (by omega) (by omega) (by omega) (by omega)) ?_
  rintro z2 t2 ⟨rfl, hp2_0⟩
  rcases hp2_0 with ⟨rfl, hp2_0⟩ | ⟨rfl, hp2_0⟩
  · skip
    refine w_ine (by omega) (fun h => absurd h (by omega)) (fun _ => ?_)
    refine w_goto ?_
    refine w_step rfl ?_
    refine w_push kc_m1000000001 ?_
    refine w_retI rfl ?_
    exact ⟨ok, fr, (by first | (exact Or.inl ⟨by omega, by first | omega | (subst_vars; rfl)⟩) | (exact Or.inr (⟨by omega, by rw [show s.toNat = (tI t 1 10).toNat by omega] at i3_7; exact bfC_a i3_7 (by omega)⟩)))⟩
  refine w_ine (by omega) (fun _ => ?_) (fun h => absurd (by omega) h)
  refine w_step rfl ?_
  refine w_push kc_m1000000005 ?_
  refine w_istore (lv' := [some (.ref 0), some (.int (jI n)), some (.int (jI w)), some (.int (jI (-1000000005))), none, none, none]) rfl ?_
  refine w_push kc_m1000000005 ?_
  refine w_istore (lv' := [some (.ref 0), some (.int (jI n)), some (.int (jI w)), some (.int (jI (-1000000005))), some (.int (jI (-1000000005))), none, none]) rfl ?_
  refine w_push kc_0 ?_
  refine w_istore (lv' := [some (.ref 0), some (.int (jI n)), some (.int (jI w)), some (.int (jI (-1000000005))), some (.int (jI (-1000000005))), some (.int (jI 0)), none]) rfl ?_
  refine w_goto ?_
  have key3 : ∀ (n3 M3 : Nat) (least : Int) (which : Int) (s : Int) (o6 : Option Int) (t3 : TS), OK t3 → Fr [(24, 10), (24, 11), (24, 12), (24, 13), (24, 14), (25, 100), (26, 100), (27, 100), (28, 100), (29, 100), (30, 100), (31, 100), (32, 100), (34, 100), (33, 101)] t t3 → (-2147483648 ≤ least) → (least ≤ 2147483647) → (-2147483648 ≤ which) → (which ≤ 2147483647) → (0 ≤ s) → (s ≤ 12) → (s ≤ tI t 1 10) → (bfC (fun s => picG (tI t 1 10).toNat (OC t 1) (dysF (tI t 1 10).toNat (OC t 1) (tI t 1 12) (tI t 1 14) n.toNat (upF (tA t 5) s 13, tA t 6))) s.toNat least which) → 12 - s < (n3 : Int) → 60 * n3 + (1000) ≤ M3 → Rn (bX8_lost (EX FU (d + 6))) M3 3 [some (.ref 0), some (.int (jI n)), some (.int (jI w)), some (.int (jI least)), some (.int (jI which)), some (.int (jI s)), dv o6] [] (mk t3) (PI (fun z t' => OK t' ∧ Fr [(24, 10), (24, 11), (24, 12), (24, 13), (24, 14), (25, 100), (26, 100), (27, 100), (28, 100), (29, 100), (30, 100), (31, 100), (32, 100), (34, 100), (33, 101)] t t' ∧ (((¬ (0 ≤ n ∧ n ≤ 60 ∧ 0 ≤ w ∧ w ≤ 1)) ∧ z = (-1000000001)) ∨ ((0 ≤ n ∧ n ≤ 60 ∧ 0 ≤ w ∧ w ≤ 1) ∧ z = bfA (bfF (fun s => picG (tI t 1 10).toNat (OC t 1) (dysF (tI t 1 10).toNat (OC t 1) (tI t 1 12) (tI t 1 14) n.toNat (upF (tA t 5) s 13, tA t 6))) (tI t 1 10).toNat) w)))) := by
    intro n3
    induction n3 with
    | zero => intro M3 least which s o6 t3 ok3 fr3 i3_0 i3_1 i3_2 i3_3 i3_4 i3_5 i3_6 i3_7 v3 f3; exfalso; omega
    | succ n3 ih3 =>
      intro M3 least which s o6 t3 ok3 fr3 i3_0 i3_1 i3_2 i3_3 i3_4 i3_5 i3_6 i3_7 v3 f3
      obtain ⟨M3, rfl⟩ : ∃ m, M3 = m + 60 := ⟨M3 - 60, by omega⟩
      have frc := fr3
      have e10 : tI t3 1 10 = tI t 1 10 := fr3.1 1 10 (by simp)
      refine w_step rfl ?_
      refine w_iload rfl ?_
      refine w_aload rfl ?_
      refine w_getR (g_0_0 _) ?_
      refine w_getI (g_1_10 _) fe_1_10 ok3 (fun z4 hz4 hl4 hh4 => ?_)
      refine w_cge (by omega) (fun h5 => ?_) (fun h5 => ?_)
      · skip
        refine w_step rfl ?_
        refine w_iload rfl ?_
        refine w_ine (by omega) (fun h6 => ?_) (fun h6 => ?_)
        · skip
          refine w_step rfl ?_
          refine w_iload rfl ?_
          refine w_goto ?_
          refine w_step rfl ?_
          refine w_retI rfl ?_
          exact ⟨ok3, fr3, (by first | (exact Or.inl ⟨by omega, by first | omega | (subst_vars; rfl)⟩) | (exact Or.inr (⟨by omega, by rw [show s.toNat = (tI t 1 10).toNat by omega] at i3_7; exact bfC_a i3_7 (by omega)⟩)))⟩
        refine w_iload rfl ?_
        refine w_goto ?_
        refine w_step rfl ?_
        refine w_retI rfl ?_
        exact ⟨ok3, fr3, (by first | (exact Or.inl ⟨by omega, by first | omega | (subst_vars; rfl)⟩) | (exact Or.inr (⟨by omega, by rw [show s.toNat = (tI t 1 10).toNat by omega] at i3_7; exact bfC_a i3_7 (by omega)⟩)))⟩
      refine w_aload rfl ?_
      refine w_getR (g_0_2 _) ?_
      refine w_aload rfl ?_
      refine w_getR (g_0_0 _) ?_
      refine w_iload rfl ?_
      refine w_iload rfl ?_
      refine w_callV3I (oj_23 _).choose_spec rfl (e_X7_pictureWithout ok3 (lo_h q0 frc (by simp) (by simp) (by simp)) (by omega) (by omega) (by omega) (by omega) (by omega)) ?_
      rintro z7 t7 ⟨ok7, fq7, hp7_0, hp7_1, hp7_2⟩
      have fr7 := fr3.then fq7 (by simp)
      have emq : z7 = (fun s => picG (tI t 1 10).toNat (OC t 1) (dysF (tI t 1 10).toNat (OC t 1) (tI t 1 12) (tI t 1 14) n.toNat (upF (tA t 5) s 13, tA t 6))) s.toNat := by rw [hp7_2]; exact lo_c frc (by simp) (by simp) (by simp) (by simp) (by simp) (by simp) (by simp)
      refine w_istore (lv' := [some (.ref 0), some (.int (jI n)), some (.int (jI w)), some (.int (jI least)), some (.int (jI which)), some (.int (jI s)), some (.int (jI z7))]) rfl ?_
      refine w_iload rfl ?_
      refine w_push kc_m1000000005 ?_
      refine w_ceq (by omega) (fun h8 => ?_) (fun h8 => ?_)
      · skip
        refine w_step rfl ?_
        refine w_iload rfl ?_
        refine w_istore (lv' := [some (.ref 0), some (.int (jI n)), some (.int (jI w)), some (.int (jI z7)), some (.int (jI which)), some (.int (jI s)), some (.int (jI z7))]) rfl ?_
        refine w_iload rfl ?_
        refine w_istore (lv' := [some (.ref 0), some (.int (jI n)), some (.int (jI w)), some (.int (jI z7)), some (.int (jI s)), some (.int (jI s)), some (.int (jI z7))]) rfl ?_
        refine w_goto ?_
        refine w_step rfl ?_
        refine w_iinc (lv' := [some (.ref 0), some (.int (jI n)), some (.int (jI w)), some (.int (jI z7)), some (.int (jI s)), some (.int (jI (s + 1))), some (.int (jI z7))]) kc_1 rfl rfl ?_
        refine w_goto ?_
        exact ih3 _ z7 s (s + 1) (some z7) t7 ok7 fr7 (by omega) (by omega) (by omega) (by omega) (by omega) (by omega) (by omega) (by first | exact i3_7.y (by omega) emq (by omega) | exact i3_7.n (by omega) emq (by omega) | omega) (by omega) (by omega)
      refine w_iload rfl ?_
      refine w_iload rfl ?_
      refine w_cge (by omega) (fun h9 => ?_) (fun h9 => ?_)
      · skip
        refine w_step rfl ?_
        refine w_iinc (lv' := [some (.ref 0), some (.int (jI n)), some (.int (jI w)), some (.int (jI least)), some (.int (jI which)), some (.int (jI (s + 1))), some (.int (jI z7))]) kc_1 rfl rfl ?_
        refine w_goto ?_
        exact ih3 _ least which (s + 1) (some z7) t7 ok7 fr7 (by omega) (by omega) (by omega) (by omega) (by omega) (by omega) (by omega) (by first | exact i3_7.y (by omega) emq (by omega) | exact i3_7.n (by omega) emq (by omega) | omega) (by omega) (by omega)
      refine w_goto ?_
      refine w_step rfl ?_
      refine w_iload rfl ?_
      refine w_istore (lv' := [some (.ref 0), some (.int (jI n)), some (.int (jI w)), some (.int (jI z7)), some (.int (jI which)), some (.int (jI s)), some (.int (jI z7))]) rfl ?_
      refine w_iload rfl ?_
      refine w_istore (lv' := [some (.ref 0), some (.int (jI n)), some (.int (jI w)), some (.int (jI z7)), some (.int (jI s)), some (.int (jI s)), some (.int (jI z7))]) rfl ?_
      refine w_goto ?_
      refine w_step rfl ?_
      refine w_iinc (lv' := [some (.ref 0), some (.int (jI n)), some (.int (jI w)), some (.int (jI z7)), some (.int (jI s)), some (.int (jI (s + 1))), some (.int (jI z7))]) kc_1 rfl rfl ?_
      refine w_goto ?_
      exact ih3 _ z7 s (s + 1) (some z7) t7 ok7 fr7 (by omega) (by omega) (by omega) (by omega) (by omega) (by omega) (by omega) (by first | exact i3_7.y (by omega) emq (by omega) | exact i3_7.n (by omega) emq (by omega) | omega) (by omega) (by omega)
  exact key3 13 _ (-1000000005) (-1000000005) 0 none t ok fr (by omega) (by omega) (by omega) (by omega) (by omega) (by omega) (by omega) (Or.inl ⟨rfl, rfl, rfl⟩) (by omega) (by omega)
set_option maxRecDepth 100000 in
set_option maxHeartbeats 4000000 in
theorem e_X8_fee {d : Nat} {t : TS}  (ok : OK t) (q0 : GD t) (q1 : HCt t 1) : CI (EX FU (d + 4)) 98 [.ref 0] (mk t) (fun z t' => OK t' ∧ Fr [] t t' ∧ (z = exF t (lwF t 1 1) (pcX t 1 0) (pcX t 1 0) (mtX t 1 0) 0)) := by
  refine CI_ent (d := d + 3) (Bk := bX8_fee) (nL := 3) rfl rfl rfl (Nat.le_of_ble_eq_true rfl) ?_
  show Rn _ 1000000 0 [some (.ref 0), none, none] [] _ _
  have fr : Fr [] t t := Fr.rf _ _
  have hn0 := (ok.f fe_1_10).1
  have hn1 := (ok.f fe_1_10).2
  have hu6 : ∀ s, 0 ≤ tA t 6 s ∧ tA t 6 s ≤ 1 := fun s => ok.a (ae_6 s)
  refine w_step rfl ?_
  refine w_aload rfl ?_
  refine w_getR (g_0_0 _) ?_
  refine w_callV0I (oj_1 _).choose_spec rfl (e_X4_picture isT1 ok) ?_
  rintro z1 t1 ⟨rfl, hp1_0, hp1_1, hp1_2⟩
  have epc : z1 = pcX t 1 0 := by rw [hp1_2]; exact picC q1 (OC t 1) (fun _ _ _ => rfl) hu6
  refine w_istore (lv' := [some (.ref 0), some (.int (jI z1)), none]) rfl ?_
  refine w_aload rfl ?_
  refine w_getR (g_0_0 _) ?_
  refine w_push kc_1 ?_
  refine w_callV1R (oj_1 _).choose_spec rfl (e_X4_law isT1 ok (by omega) (by omega)) ?_ ?_
  · rintro t2 ⟨rfl, hp2_0, hp2_1⟩
    have elw := hp2_1
    refine w_astoreN (lv' := [some (.ref 0), some (.int (jI z1)), some (.null)]) rfl ?_
    refine w_aloadN rfl ?_
    refine w_ifnonnullN ?_
    refine w_iload rfl ?_
    refine w_goto ?_
    refine w_step rfl ?_
    refine w_retI rfl ?_
    exact ⟨ok, fr, (by first | (rw [hp99qq_0, epc, emt, ← exF_j t _ (pcX t 1 0)]; exact congrArg (fun o => exF t o (pcX t 1 0) (pcX t 1 0) (mtX t 1 0) 0) elw) | (rw [epc]; exact congrArg (fun o => exF t o (pcX t 1 0) (pcX t 1 0) (mtX t 1 0) 0) elw))⟩
  rintro r2 t2 ⟨rfl, hp2_0, hp2_1⟩
  obtain ⟨j2, hj2, rfl⟩ := hp2_0 _ rfl
  have elw := hp2_1
  refine w_astore (lv' := [some (.ref 0), some (.int (jI z1)), some (.ref (92 + 4 * j2))]) rfl ?_
  refine w_aload rfl ?_
  refine w_ifnonnullR ?_
  refine w_step rfl ?_
  refine w_aload rfl ?_
  refine w_iload rfl ?_
  refine w_aload rfl ?_
  refine w_getR (g_0_0 _) ?_
  refine w_callV0I (oj_1 _).choose_spec rfl (e_X4_matches isT1 ok) ?_
  rintro z3 t3 ⟨rfl, hp3_0, hp3_1, hp3_2⟩
  have emt : z3 = mtX t 1 0 := by rw [hp3_2]; exact matC q1
  refine w_push kc_0 ?_
  refine w_callV3I (ojX (by have hl := fr.len; omega)).choose_spec rfl (e_X6_gives (by have hl := fr.len; omega) ok (GD.fr q0 fr) (by omega) (by omega) (by omega) (by omega) (by omega) (by omega)) ?_
  rintro z4 t4 ⟨ok4, fq4, hp4_0, hp4_1, hp4_2⟩
  have fr4 := fr.then fq4 (by simp)
  refine w_goto ?_
  refine w_step rfl ?_
  refine w_retI rfl ?_
  exact ⟨ok4, fr4, (by first | (rw [hp4_0, epc, emt, ← exF_j t _ (pcX t 1 0)]; exact congrArg (fun o => exF t o (pcX t 1 0) (pcX t 1 0) (mtX t 1 0) 0) elw) | (rw [epc]; exact congrArg (fun o => exF t o (pcX t 1 0) (pcX t 1 0) (mtX t 1 0) 0) elw))⟩
set_option maxRecDepth 100000 in
set_option maxHeartbeats 4000000 in
theorem e_X8_fine {d : Nat} {t : TS} {s : Int}  (ok : OK t) (q0 : GD t) (q1 : -2147483648 ≤ s) (q2 : s ≤ 2147483647) : CI (EX FU (d + 4)) 99 [.ref 0, .int (jI s)] (mk t) (fun z t' => OK t' ∧ Fr [] t t' ∧ (((¬ (0 ≤ s ∧ s ≤ tI t 1 10 - 1)) ∧ z = (-1000000001)) ∨ ((0 ≤ s ∧ s ≤ tI t 1 10 - 1) ∧ z = exF t (lwF t 1 2) (tA t 3 s.toNat) (tA t 3 s.toNat) (tA t 4 s.toNat) (tA t 6 s.toNat)))) := by
  refine CI_ent (d := d + 3) (Bk := bX8_fine) (nL := 3) rfl rfl rfl (Nat.le_of_ble_eq_true rfl) ?_
  show Rn _ 1000000 0 [some (.ref 0), some (.int (jI s)), none] [] _ _
  have fr : Fr [] t t := Fr.rf _ _
  have hn0 := (ok.f fe_1_10).1
  have hn1 := (ok.f fe_1_10).2
  refine w_step rfl ?_
  refine w_aload rfl ?_
  refine w_iload rfl ?_
  refine w_callV1I (oj_0 _).choose_spec rfl (c_X8_isStone ok (by omega) (by omega)) ?_
  rintro z1 t1 ⟨rfl, hp1_0⟩
  rcases hp1_0 with ⟨rfl, hp1_0⟩ | ⟨rfl, hp1_0⟩
  · skip
    refine w_ine (by omega) (fun h => absurd h (by omega)) (fun _ => ?_)
    refine w_push kc_m1000000001 ?_
    refine w_retI rfl ?_
    exact ⟨ok, fr, (by first | (exact Or.inl ⟨by omega, by first | omega | (subst_vars; rfl)⟩) | (exact Or.inr (⟨by omega, by first | (rw [hp99qq_0, hz99qq, hz99qq, hz99qq, ← exF_j t _ (tA t 3 s.toNat)]; exact congrArg (fun o => exF t o (tA t 3 s.toNat) (tA t 3 s.toNat) (tA t 4 s.toNat) (tA t 6 s.toNat)) elw) | exact hz99qq.trans (congrArg (fun o => exF t o (tA t 3 s.toNat) (tA t 3 s.toNat) (tA t 4 s.toNat) (tA t 6 s.toNat)) elw)⟩)))⟩
  refine w_ine (by omega) (fun _ => ?_) (fun h => absurd (by omega) h)
  refine w_step rfl ?_
  refine w_aload rfl ?_
  refine w_getR (g_0_0 _) ?_
  refine w_push kc_2 ?_
  refine w_callV1R (oj_1 _).choose_spec rfl (e_X4_law isT1 ok (by omega) (by omega)) ?_ ?_
  · rintro t2 ⟨rfl, hp2_0, hp2_1⟩
    have elw := hp2_1
    refine w_astoreN (lv' := [some (.ref 0), some (.int (jI s)), some (.null)]) rfl ?_
    refine w_aloadN rfl ?_
    refine w_ifnonnullN ?_
    refine w_aload rfl ?_
    refine w_getR (g_0_0 _) ?_
    refine w_getR (g_1_1 _) ?_
    refine w_iload rfl ?_
    refine w_iald (i := (s).toNat) (ai_3 _) (by omega) (by omega) (ae_3 _) ok (fun z3 hz3 hl3 hh3 => ?_)
    refine w_goto ?_
    refine w_step rfl ?_
    refine w_retI rfl ?_
    exact ⟨ok, fr, (by first | (exact Or.inl ⟨by omega, by first | omega | (subst_vars; rfl)⟩) | (exact Or.inr (⟨by omega, by first | (rw [hp99qq_0, hz99qq, hz99qq, hz99qq, ← exF_j t _ (tA t 3 s.toNat)]; exact congrArg (fun o => exF t o (tA t 3 s.toNat) (tA t 3 s.toNat) (tA t 4 s.toNat) (tA t 6 s.toNat)) elw) | exact hz3.trans (congrArg (fun o => exF t o (tA t 3 s.toNat) (tA t 3 s.toNat) (tA t 4 s.toNat) (tA t 6 s.toNat)) elw)⟩)))⟩
  rintro r2 t2 ⟨rfl, hp2_0, hp2_1⟩
  obtain ⟨j2, hj2, rfl⟩ := hp2_0 _ rfl
  have elw := hp2_1
  refine w_astore (lv' := [some (.ref 0), some (.int (jI s)), some (.ref (92 + 4 * j2))]) rfl ?_
  refine w_aload rfl ?_
  refine w_ifnonnullR ?_
  refine w_step rfl ?_
  refine w_aload rfl ?_
  refine w_aload rfl ?_
  refine w_getR (g_0_0 _) ?_
  refine w_getR (g_1_1 _) ?_
  refine w_iload rfl ?_
  refine w_iald (i := (s).toNat) (ai_3 _) (by omega) (by omega) (ae_3 _) ok (fun z4 hz4 hl4 hh4 => ?_)
  refine w_aload rfl ?_
  refine w_getR (g_0_0 _) ?_
  refine w_getR (g_1_2 _) ?_
  refine w_iload rfl ?_
  refine w_iald (i := (s).toNat) (ai_4 _) (by omega) (by omega) (ae_4 _) ok (fun z5 hz5 hl5 hh5 => ?_)
  refine w_aload rfl ?_
  refine w_getR (g_0_0 _) ?_
  refine w_getR (g_1_4 _) ?_
  refine w_iload rfl ?_
  refine w_iald (i := (s).toNat) (ai_6 _) (by omega) (by omega) (ae_6 _) ok (fun z6 hz6 hl6 hh6 => ?_)
  refine w_callV3I (ojX (by have hl := fr.len; omega)).choose_spec rfl (e_X6_gives (by have hl := fr.len; omega) ok (GD.fr q0 fr) (by omega) (by omega) (by omega) (by omega) (by omega) (by omega)) ?_
  rintro z7 t7 ⟨ok7, fq7, hp7_0, hp7_1, hp7_2⟩
  have fr7 := fr.then fq7 (by simp)
  refine w_goto ?_
  refine w_step rfl ?_
  refine w_retI rfl ?_
  exact ⟨ok7, fr7, (by first | (exact Or.inl ⟨by omega, by first | omega | (subst_vars; rfl)⟩) | (exact Or.inr (⟨by omega, by first | (rw [hp7_0, hz4, hz5, hz6, ← exF_j t _ (tA t 3 s.toNat)]; exact congrArg (fun o => exF t o (tA t 3 s.toNat) (tA t 3 s.toNat) (tA t 4 s.toNat) (tA t 6 s.toNat)) elw) | exact hz99qq.trans (congrArg (fun o => exF t o (tA t 3 s.toNat) (tA t 3 s.toNat) (tA t 4 s.toNat) (tA t 6 s.toNat)) elw)⟩)))⟩
set_option maxRecDepth 100000 in
set_option maxHeartbeats 4000000 in
theorem e_X8_why {d : Nat} {t : TS} {k : Int}  (ok : OK t) (q0 : -2147483648 ≤ k) (q1 : k ≤ 2147483647) : CI (EX FU (d + 2)) 104 [.ref 0, .int (jI k)] (mk t) (fun z t' => t = t' ∧ (((¬ (0 ≤ k ∧ k ≤ 2)) ∧ z = (-1000000001)) ∨ ((0 ≤ k ∧ k ≤ 2) ∧ (tA t 11 k.toNat = -1) ∧ z = (-1000000005)) ∨ ((0 ≤ k ∧ k ≤ 2) ∧ (¬ tA t 11 k.toNat = -1) ∧ z = tA t 11 k.toNat))) := by
  refine CI_ent (d := d + 1) (Bk := bX8_why) (nL := 2) rfl rfl rfl (Nat.le_of_ble_eq_true rfl) ?_
  show Rn _ 1000000 0 [some (.ref 0), some (.int (jI k))] [] _ _
  have hn0 := (ok.f fe_1_10).1
  have hn1 := (ok.f fe_1_10).2
  refine w_step rfl ?_
  refine w_iload rfl ?_
  refine w_push kc_0 ?_
  refine w_push kc_2 ?_
  refine w_callS3I rfl (c_X8_within ok (by omega) (by omega) (by omega) (by omega) (by omega) (by omega)) ?_
  rintro z1 t1 ⟨rfl, hp1_0⟩
  rcases hp1_0 with ⟨rfl, hp1_0⟩ | ⟨rfl, hp1_0⟩
  · skip
    refine w_ine (by omega) (fun h => absurd h (by omega)) (fun _ => ?_)
    refine w_push kc_m1000000001 ?_
    refine w_retI rfl ?_
    exact ⟨rfl, (by first | (exact Or.inl ⟨by omega, by first | omega | (subst_vars; rfl)⟩) | (exact Or.inr (Or.inl ⟨by omega, by omega, by first | omega | (subst_vars; rfl)⟩)) | (exact Or.inr (Or.inr (⟨by omega, by omega, by first | omega | (subst_vars; rfl)⟩))))⟩
  refine w_ine (by omega) (fun _ => ?_) (fun h => absurd (by omega) h)
  refine w_step rfl ?_
  refine w_aload rfl ?_
  refine w_getR (g_0_0 _) ?_
  refine w_getR (g_1_9 _) ?_
  refine w_iload rfl ?_
  refine w_iald (i := (k).toNat) (ai_11 _) (by omega) (by omega) (ae_11 _) ok (fun z2 hz2 hl2 hh2 => ?_)
  refine w_push kc_m1 ?_
  refine w_cne (by omega) (fun h3 => ?_) (fun h3 => ?_)
  · skip
    refine w_step rfl ?_
    refine w_aload rfl ?_
    refine w_getR (g_0_0 _) ?_
    refine w_getR (g_1_9 _) ?_
    refine w_iload rfl ?_
    refine w_iald (i := (k).toNat) (ai_11 _) (by omega) (by omega) (ae_11 _) ok (fun z4 hz4 hl4 hh4 => ?_)
    refine w_goto ?_
    refine w_step rfl ?_
    refine w_retI rfl ?_
    exact ⟨rfl, (by first | (exact Or.inl ⟨by omega, by first | omega | (subst_vars; rfl)⟩) | (exact Or.inr (Or.inl ⟨by omega, by omega, by first | omega | (subst_vars; rfl)⟩)) | (exact Or.inr (Or.inr (⟨by omega, by omega, by first | omega | (subst_vars; rfl)⟩))))⟩
  refine w_push kc_m1000000005 ?_
  refine w_goto ?_
  refine w_step rfl ?_
  refine w_retI rfl ?_
  exact ⟨rfl, (by first | (exact Or.inl ⟨by omega, by first | omega | (subst_vars; rfl)⟩) | (exact Or.inr (Or.inl ⟨by omega, by omega, by first | omega | (subst_vars; rfl)⟩)) | (exact Or.inr (Or.inr (⟨by omega, by omega, by first | omega | (subst_vars; rfl)⟩))))⟩
end
section
set_option maxRecDepth 100000 in
set_option maxHeartbeats 4000000 in
theorem e_X8_textTold {d : Nat} {t : TS} {x w : Int}  (ok : OK t) (q0 : -2147483648 ≤ x) (q1 : x ≤ 2147483647) (q2 : -2147483648 ≤ w) (q3 : w ≤ 2147483647) : CI (EX FU (d + 3)) 103 [.ref 0, .int (jI x), .int (jI w)] (mk t) (fun z t' => t = t' ∧ ((z = (-1000000001) ∧ ((if 0 ≤ x ∧ x ≤ tI t 1 11 - 1 then tT t 10 x.toNat else none) = none ∨ ¬ (0 ≤ w ∧ w ≤ 1))) ∨ (0 ≤ w ∧ w ≤ 1 ∧ ∃ j, j < (tD t).length ∧ (if 0 ≤ x ∧ x ≤ tI t 1 11 - 1 then tT t 10 x.toNat else none) = some (92 + 4 * j) ∧ ((w = 0 ∧ z = (tx t j).1) ∨ (w = 1 ∧ z = (tx t j).2.1))))) := by
  refine CI_ent (d := d + 2) (Bk := bX8_textTold) (nL := 4) rfl rfl rfl (Nat.le_of_ble_eq_true rfl) ?_
  show Rn _ 1000000 0 [some (.ref 0), some (.int (jI x)), some (.int (jI w)), none] [] _ _
  have hn0 := (ok.f fe_1_10).1
  have hn1 := (ok.f fe_1_10).2
  refine w_step rfl ?_
  refine w_aload rfl ?_
  refine w_getR (g_0_0 _) ?_
  refine w_iload rfl ?_
  refine w_callV1R (oj_1 _).choose_spec rfl (e_X4_textAt isT1 ok (by omega) (by omega)) ?_ ?_
  · rintro t1 ⟨rfl, hp1_0, hp1_1⟩
    have eto := hp1_1
    have ejj := hp1_0
    refine w_astoreN (lv' := [some (.ref 0), some (.int (jI x)), some (.int (jI w)), some (.null)]) rfl ?_
    refine w_aloadN rfl ?_
    refine w_ifnullN ?_
    refine w_step rfl ?_
    refine w_push kc_m1000000001 ?_
    refine w_retI rfl ?_
    exact ⟨rfl, (by first | exact Or.inl ⟨rfl, Or.inl eto.symm⟩ | exact Or.inl ⟨rfl, Or.inr (by omega)⟩ | exact Or.inr ⟨by omega, by omega, _, by assumption, eto.symm, by omega⟩)⟩
  rintro r1 t1 ⟨rfl, hp1_0, hp1_1⟩
  obtain ⟨j1, hj1, rfl⟩ := hp1_0 _ rfl
  have eto := hp1_1
  have ejj := hp1_0
  refine w_astore (lv' := [some (.ref 0), some (.int (jI x)), some (.int (jI w)), some (.ref (92 + 4 * j1))]) rfl ?_
  refine w_aload rfl ?_
  refine w_ifnullR ?_
  refine w_iload rfl ?_
  refine w_push kc_0 ?_
  refine w_push kc_1 ?_
  refine w_callS3I rfl (c_X8_within ok (by omega) (by omega) (by omega) (by omega) (by omega) (by omega)) ?_
  rintro z2 t2 ⟨rfl, hp2_0⟩
  rcases hp2_0 with ⟨rfl, hp2_0⟩ | ⟨rfl, hp2_0⟩
  · skip
    refine w_ine (by omega) (fun h => absurd h (by omega)) (fun _ => ?_)
    refine w_goto ?_
    refine w_step rfl ?_
    refine w_push kc_m1000000001 ?_
    refine w_retI rfl ?_
    exact ⟨rfl, (by first | exact Or.inl ⟨rfl, Or.inl eto.symm⟩ | exact Or.inl ⟨rfl, Or.inr (by omega)⟩ | exact Or.inr ⟨by omega, by omega, _, by assumption, eto.symm, by omega⟩)⟩
  refine w_ine (by omega) (fun _ => ?_) (fun h => absurd (by omega) h)
  refine w_step rfl ?_
  refine w_iload rfl ?_
  refine w_ine (by omega) (fun h3 => ?_) (fun h3 => ?_)
  · skip
    refine w_step rfl ?_
    refine w_aload rfl ?_
    refine w_getX1 hj1 ok (fun z4 hz4 hl4 hh4 => ?_)
    refine w_goto ?_
    refine w_step rfl ?_
    refine w_retI rfl ?_
    exact ⟨rfl, (by first | exact Or.inl ⟨rfl, Or.inl eto.symm⟩ | exact Or.inl ⟨rfl, Or.inr (by omega)⟩ | exact Or.inr ⟨by omega, by omega, _, by assumption, eto.symm, by omega⟩)⟩
  refine w_aload rfl ?_
  refine w_getX0 hj1 ok (fun z5 hz5 hl5 hh5 => ?_)
  refine w_goto ?_
  refine w_step rfl ?_
  refine w_retI rfl ?_
  exact ⟨rfl, (by first | exact Or.inl ⟨rfl, Or.inl eto.symm⟩ | exact Or.inl ⟨rfl, Or.inr (by omega)⟩ | exact Or.inr ⟨by omega, by omega, _, by assumption, eto.symm, by omega⟩)⟩
set_option maxRecDepth 100000 in
set_option maxHeartbeats 4000000 in
theorem e_X8_reads {d : Nat} {t : TS} {k : Int}  (ok : OK t) (q0 : -2147483648 ≤ k) (q1 : k ≤ 2147483647) : CI (EX FU (d + 3)) 108 [.ref 0, .int (jI k)] (mk t) (fun z t' => t = t' ∧ (((¬ (0 ≤ k ∧ k ≤ 3)) ∧ z = (-1000000001)) ∨ ((0 ≤ k ∧ k ≤ 3) ∧ (tI t (45 + 2 * k.toNat) 1 = -1) ∧ z = (-1000000011)) ∨ ((0 ≤ k ∧ k ≤ 3) ∧ (¬ tI t (45 + 2 * k.toNat) 1 = -1) ∧ (FsP (fun i => ¬ tA t ((45 + 2 * k.toNat) + 1) i = -1000000005 ∧ (12 ≤ (i : Int) ∨ ¬ tA t ((45 + 2 * k.toNat) + 1) i = tA t 7 i)) (tI t (45 + 2 * k.toNat) 2) z)))) := by
  refine CI_ent (d := d + 2) (Bk := bX8_reads) (nL := 4) rfl rfl rfl (Nat.le_of_ble_eq_true rfl) ?_
  show Rn _ 1000000 0 [some (.ref 0), some (.int (jI k)), none, none] [] _ _
  have hn0 := (ok.f fe_1_10).1
  have hn1 := (ok.f fe_1_10).2
  have rz := fun q : (0 ≤ k ∧ k ≤ 3) => ok.f (feH_2 (isH_s (i := k.toNat) (by omega)))
  refine w_step rfl ?_
  refine w_iload rfl ?_
  refine w_callS1I rfl (c_X8_isSheet ok (by omega) (by omega)) ?_
  rintro z1 t1 ⟨rfl, hp1_0⟩
  rcases hp1_0 with ⟨rfl, hp1_0⟩ | ⟨rfl, hp1_0⟩
  · skip
    refine w_ine (by omega) (fun h => absurd h (by omega)) (fun _ => ?_)
    refine w_push kc_m1000000001 ?_
    refine w_retI rfl ?_
    exact ⟨rfl, (by first | (exact Or.inl ⟨by omega, by first | omega | (subst_vars; rfl)⟩) | (exact Or.inr (Or.inl ⟨by omega, by omega, by first | omega | (subst_vars; rfl)⟩)) | (exact Or.inr (Or.inr (⟨by omega, by omega, by first | exact Or.inl ⟨rfl, fun i h1 h2 => i3_3 i h1 (by omega)⟩ | exact Or.inr ⟨by omega, by omega, by show (_ ∧ _); omega, i3_3⟩⟩))))⟩
  refine w_ine (by omega) (fun _ => ?_) (fun h => absurd (by omega) h)
  refine w_step rfl ?_
  refine w_aload rfl ?_
  refine w_getR (g_0_5 _) ?_
  refine w_iload rfl ?_
  refine w_sheets (i := (k).toNat) (by omega) (by omega) ?_
  refine w_astore (lv' := [some (.ref 0), some (.int (jI k)), some (.ref (45 + 2 * (k).toNat)), none]) rfl ?_
  refine w_aload rfl ?_
  refine w_callV0I (ojH (isH_s (i := (k).toNat) (by omega)) _).choose_spec rfl (c_X2_isMissing (isH_s (i := (k).toNat) (by omega)) ok) ?_
  rintro z2 t2 ⟨rfl, hp2_0⟩
  rcases hp2_0 with ⟨rfl, hp2_0⟩ | ⟨rfl, hp2_0⟩
  · skip
    refine w_ieq (by omega) (fun _ => ?_) (fun h => absurd (by omega) h)
    refine w_step rfl ?_
    refine w_push kc_0 ?_
    refine w_istore (lv' := [some (.ref 0), some (.int (jI k)), some (.ref (45 + 2 * (k).toNat)), some (.int (jI 0))]) rfl ?_
    refine w_goto ?_
    have key3 : ∀ (n3 M3 : Nat) (p : Int), (0 ≤ p) → (p ≤ 24) → (p ≤ tI t (45 + 2 * k.toNat) 2) → (∀ i : Int, 0 ≤ i → i < p → ¬ (fun i => ¬ tA t ((45 + 2 * k.toNat) + 1) i = -1000000005 ∧ (12 ≤ (i : Int) ∨ ¬ tA t ((45 + 2 * k.toNat) + 1) i = tA t 7 i)) i.toNat) → 24 - p < (n3 : Int) → 60 * n3 + (1000) ≤ M3 → Rn (bX8_reads (EX FU (d + 2))) M3 3 [some (.ref 0), some (.int (jI k)), some (.ref (45 + 2 * (k).toNat)), some (.int (jI p))] [] (mk t) (PI (fun z t' => t = t' ∧ (((¬ (0 ≤ k ∧ k ≤ 3)) ∧ z = (-1000000001)) ∨ ((0 ≤ k ∧ k ≤ 3) ∧ (tI t (45 + 2 * k.toNat) 1 = -1) ∧ z = (-1000000011)) ∨ ((0 ≤ k ∧ k ≤ 3) ∧ (¬ tI t (45 + 2 * k.toNat) 1 = -1) ∧ (FsP (fun i => ¬ tA t ((45 + 2 * k.toNat) + 1) i = -1000000005 ∧ (12 ≤ (i : Int) ∨ ¬ tA t ((45 + 2 * k.toNat) + 1) i = tA t 7 i)) (tI t (45 + 2 * k.toNat) 2) z))))) := by
      intro n3
      induction n3 with
      | zero => intro M3 p i3_0 i3_1 i3_2 i3_3 v3 f3; exfalso; omega
      | succ n3 ih3 =>
        intro M3 p i3_0 i3_1 i3_2 i3_3 v3 f3
        obtain ⟨M3, rfl⟩ : ∃ m, M3 = m + 60 := ⟨M3 - 60, by omega⟩
        refine w_step rfl ?_
        refine w_iload rfl ?_
        refine w_aload rfl ?_
        refine w_getI (gH_2 (isH_s (i := (k).toNat) (by omega)) _) (feH_2 (isH_s (i := (k).toNat) (by omega))) ok (fun z3 hz3 hl3 hh3 => ?_)
        refine w_cge (by omega) (fun h4 => ?_) (fun h4 => ?_)
        · skip
          refine w_step rfl ?_
          refine w_push kc_m1000000005 ?_
          refine w_retI rfl ?_
          exact ⟨rfl, (by first | (exact Or.inl ⟨by omega, by first | omega | (subst_vars; rfl)⟩) | (exact Or.inr (Or.inl ⟨by omega, by omega, by first | omega | (subst_vars; rfl)⟩)) | (exact Or.inr (Or.inr (⟨by omega, by omega, by first | exact Or.inl ⟨rfl, fun i h1 h2 => i3_3 i h1 (by omega)⟩ | exact Or.inr ⟨by omega, by omega, by show (_ ∧ _); omega, i3_3⟩⟩))))⟩
        refine w_aload rfl ?_
        refine w_iload rfl ?_
        refine w_callV1I (ojH (isH_s (i := (k).toNat) (by omega)) _).choose_spec rfl (c_X2_isNumber (isH_s (i := (k).toNat) (by omega)) ok (by omega) (by omega)) ?_
        rintro z5 t5 ⟨rfl, hp5_0⟩
        rcases hp5_0 with ⟨rfl, hp5_0⟩ | ⟨rfl, hp5_0⟩
        · skip
          refine w_ieq (by omega) (fun _ => ?_) (fun h => absurd (by omega) h)
          refine w_step rfl ?_
          refine w_iinc (lv' := [some (.ref 0), some (.int (jI k)), some (.ref (45 + 2 * (k).toNat)), some (.int (jI (p + 1)))]) kc_1 rfl rfl ?_
          refine w_goto ?_
          exact ih3 _ (p + 1)  (by omega) (by omega) (by omega) (fun i h1 h2 => (Int.lt_or_eq_of_le (show i ≤ p by omega)).elim (i3_3 i h1) (fun e => by rw [e]; show ¬ (_ ∧ _); omega)) (by omega) (by omega)
        refine w_ieq (by omega) (fun h => absurd h (by omega)) (fun _ => ?_)
        refine w_iload rfl ?_
        refine w_push kc_12 ?_
        refine w_cge (by omega) (fun h6 => ?_) (fun h6 => ?_)
        · skip
          refine w_step rfl ?_
          refine w_iload rfl ?_
          refine w_retI rfl ?_
          exact ⟨rfl, (by first | (exact Or.inl ⟨by omega, by first | omega | (subst_vars; rfl)⟩) | (exact Or.inr (Or.inl ⟨by omega, by omega, by first | omega | (subst_vars; rfl)⟩)) | (exact Or.inr (Or.inr (⟨by omega, by omega, by first | exact Or.inl ⟨rfl, fun i h1 h2 => i3_3 i h1 (by omega)⟩ | exact Or.inr ⟨by omega, by omega, by show (_ ∧ _); omega, i3_3⟩⟩))))⟩
        refine w_aload rfl ?_
        refine w_getR (gH_0 (isH_s (i := (k).toNat) (by omega)) _) ?_
        refine w_iload rfl ?_
        refine w_iald (i := (p).toNat) (aiH_1 (isH_s (i := (k).toNat) (by omega)) _) (by omega) (by omega) (aeH_1 (isH_s (i := (k).toNat) (by omega)) _) ok (fun z7 hz7 hl7 hh7 => ?_)
        refine w_aload rfl ?_
        refine w_getR (g_0_0 _) ?_
        refine w_getR (g_1_5 _) ?_
        refine w_iload rfl ?_
        refine w_iald (i := (p).toNat) (ai_7 _) (by omega) (by omega) (ae_7 _) ok (fun z8 hz8 hl8 hh8 => ?_)
        refine w_ceq (by omega) (fun h9 => ?_) (fun h9 => ?_)
        · skip
          refine w_step rfl ?_
          refine w_iinc (lv' := [some (.ref 0), some (.int (jI k)), some (.ref (45 + 2 * (k).toNat)), some (.int (jI (p + 1)))]) kc_1 rfl rfl ?_
          refine w_goto ?_
          exact ih3 _ (p + 1)  (by omega) (by omega) (by omega) (fun i h1 h2 => (Int.lt_or_eq_of_le (show i ≤ p by omega)).elim (i3_3 i h1) (fun e => by rw [e]; show ¬ (_ ∧ _); omega)) (by omega) (by omega)
        refine w_goto ?_
        refine w_step rfl ?_
        refine w_iload rfl ?_
        refine w_retI rfl ?_
        exact ⟨rfl, (by first | (exact Or.inl ⟨by omega, by first | omega | (subst_vars; rfl)⟩) | (exact Or.inr (Or.inl ⟨by omega, by omega, by first | omega | (subst_vars; rfl)⟩)) | (exact Or.inr (Or.inr (⟨by omega, by omega, by first | exact Or.inl ⟨rfl, fun i h1 h2 => i3_3 i h1 (by omega)⟩ | exact Or.inr ⟨by omega, by omega, by show (_ ∧ _); omega, i3_3⟩⟩))))⟩
    exact key3 25 _ 0  (by omega) (by omega) (by omega) (fun i h1 h2 => by omega) (by omega) (by omega)
  refine w_ieq (by omega) (fun h => absurd h (by omega)) (fun _ => ?_)
  refine w_push kc_m1000000011 ?_
  refine w_retI rfl ?_
  exact ⟨rfl, (by first | (exact Or.inl ⟨by omega, by first | omega | (subst_vars; rfl)⟩) | (exact Or.inr (Or.inl ⟨by omega, by omega, by first | omega | (subst_vars; rfl)⟩)) | (exact Or.inr (Or.inr (⟨by omega, by omega, by first | exact Or.inl ⟨rfl, fun i h1 h2 => i3_3 i h1 (by omega)⟩ | exact Or.inr ⟨by omega, by omega, by show (_ ∧ _); omega, i3_3⟩⟩))))⟩
set_option maxRecDepth 100000 in
set_option maxHeartbeats 4000000 in
theorem e_X8_check {d : Nat} {t : TS} {n : Int}  (ok : OK t) (q0 : ¬ tI t 0 9 = 0 → HCt t 12) (q1 : -2147483648 ≤ n) (q2 : n ≤ 2147483647) (q3 : 0 ≤ tI t 12 13) (q4 : tI t 12 13 ≤ 9999) : CI (EX FU (d + 6)) 115 [.ref 0, .int (jI n)] (mk t) (fun z t' => OK t' ∧ Fr [(0, 8), (24, 10), (24, 11), (24, 12), (24, 13), (24, 14), (25, 100), (26, 100), (27, 100), (28, 100), (29, 100), (30, 100), (31, 100), (32, 100), (34, 100), (33, 101)] t t' ∧ (tI t' 0 8 = 0) ∧ (((¬ (1 ≤ n ∧ n ≤ 30)) ∧ z = (-1000000001)) ∨ ((1 ≤ n ∧ n ≤ 30) ∧ (tI t 0 9 = 0) ∧ z = (-1000000002)) ∨ ((1 ≤ n ∧ n ≤ 30) ∧ (¬ tI t 0 9 = 0) ∧ (CkP (pcX t 12) (mtX t 12) (tA t 44) (tI t 0 8) (2 * (min n (9999 - tI t 12 13))) z)))) := by
  refine CI_ent (d := d + 5) (Bk := bX8_check) (nL := 4) rfl rfl rfl (Nat.le_of_ble_eq_true rfl) ?_
  show Rn _ 1000000 0 [some (.ref 0), some (.int (jI n)), none, none] [] _ _
  have fr : Fr [(0, 8), (24, 10), (24, 11), (24, 12), (24, 13), (24, 14), (25, 100), (26, 100), (27, 100), (28, 100), (29, 100), (30, 100), (31, 100), (32, 100), (34, 100), (33, 101)] t t := Fr.rf _ _
  have hn0 := (ok.f fe_1_10).1
  have hn1 := (ok.f fe_1_10).2
  refine w_step rfl ?_
  refine w_aload rfl ?_
  refine w_getI (g_0_8 _) fe_0_8 ok (fun z1 hz1 hl1 hh1 => ?_)
  have ew8 := hz1
  refine w_istore (lv' := [some (.ref 0), some (.int (jI n)), some (.int (jI z1)), none]) rfl ?_
  refine w_aload rfl ?_
  refine w_push kc_0 ?_
  refine w_putI (p_0_8 _) fe_0_8 ok (by omega) (fun t2 ht2 ok2 => ?_)
  have fr2 := fr.uI ht2 (by simp)
  have e0 : tI t2 0 8 = 0 := by rw [ht2, tI_uI, if_pos ⟨rfl, rfl⟩]
  have ed : tI t2 12 13 = tI t 12 13 := by rw [ht2, tI_uI, if_neg (by decide)]
  have fr8 := fr2
  refine w_iload rfl ?_
  refine w_push kc_1 ?_
  refine w_push kc_30 ?_
  refine w_callS3I rfl (c_X8_within ok2 (by omega) (by omega) (by omega) (by omega) (by omega) (by omega)) ?_
  rintro z3 t3 ⟨rfl, hp3_0⟩
  rcases hp3_0 with ⟨rfl, hp3_0⟩ | ⟨rfl, hp3_0⟩
  · skip
    refine w_ine (by omega) (fun h => absurd h (by omega)) (fun _ => ?_)
    refine w_push kc_m1000000001 ?_
    refine w_retI rfl ?_
    exact ⟨ok2, fr2, e0, (by first | (exact Or.inl ⟨by omega, by first | omega | (subst_vars; rfl)⟩) | (exact Or.inr (Or.inl ⟨by omega, by omega, by first | omega | (subst_vars; rfl)⟩)) | (exact Or.inr (Or.inr (⟨by omega, by omega, by rw [← ew8, ← edd]; first | (rw [if_pos (by omega)] at ck; exact ck) | (rw [if_neg (by omega)] at ck; exact ck)⟩))))⟩
  refine w_ine (by omega) (fun _ => ?_) (fun h => absurd (by omega) h)
  refine w_step rfl ?_
  refine w_aload rfl ?_
  refine w_getI (g_0_9 _) fe_0_9 ok2 (fun z4 hz4 hl4 hh4 => ?_)
  have e9 : z4 = tI t 0 9 := by rw [hz4, fr8.1 0 9 (by simp)]
  refine w_ine (by omega) (fun h5 => ?_) (fun h5 => ?_)
  · skip
    refine w_step rfl ?_
    refine w_aload rfl ?_
    refine w_getR (g_0_2 _) ?_
    refine w_aload rfl ?_
    refine w_getR (g_0_1 _) ?_
    refine w_iload rfl ?_
    refine w_push kc_9999 ?_
    refine w_aload rfl ?_
    refine w_getR (g_0_1 _) ?_
    refine w_getI (g_12_13 _) fe_12_13 ok2 (fun z6 hz6 hl6 hh6 => ?_)
    have edd : z6 = tI t 12 13 := by rw [hz6]; exact ed
    refine w_sub ?_
    refine w_min rfl (by omega) ?_
    refine w_aload rfl ?_
    refine w_getR (g_0_7 _) ?_
    refine w_iload rfl ?_
    refine w_callV4I (oj_23 _).choose_spec rfl (e_X7_rightAhead ok2 (ck_h (q0 (by omega)) fr8 (by simp) (by simp) (by simp)) (by omega) (by omega) (by omega) (by omega)) ?_
    rintro z7 t7 ⟨ok7, fq7, hp7_0, hp7_1, hp7_2⟩
    have fr7 := fr2.then fq7 (by simp)
    have e0 := (fq7.1 0 8 (by simp)).trans e0
    have ck := ck_c fr8 hp7_2 (by simp) (by simp) (by simp) (by simp) (by simp) (by simp) (by simp) (by simp) (by simp) (by simp)
    refine w_istore (lv' := [some (.ref 0), some (.int (jI n)), some (.int (jI z1)), some (.int (jI z7))]) rfl ?_
    refine w_iload rfl ?_
    refine w_push kc_m1 ?_
    refine w_cne (by omega) (fun h8 => ?_) (fun h8 => ?_)
    · skip
      refine w_step rfl ?_
      refine w_push kc_1 ?_
      refine w_iload rfl ?_
      refine w_add ?_
      refine w_goto ?_
      refine w_step rfl ?_
      refine w_retI rfl ?_
      exact ⟨ok7, fr7, e0, (by first | (exact Or.inl ⟨by omega, by first | omega | (subst_vars; rfl)⟩) | (exact Or.inr (Or.inl ⟨by omega, by omega, by first | omega | (subst_vars; rfl)⟩)) | (exact Or.inr (Or.inr (⟨by omega, by omega, by rw [← ew8, ← edd]; first | (rw [if_pos (by omega)] at ck; exact ck) | (rw [if_neg (by omega)] at ck; exact ck)⟩))))⟩
    refine w_push kc_0 ?_
    refine w_goto ?_
    refine w_step rfl ?_
    refine w_retI rfl ?_
    exact ⟨ok7, fr7, e0, (by first | (exact Or.inl ⟨by omega, by first | omega | (subst_vars; rfl)⟩) | (exact Or.inr (Or.inl ⟨by omega, by omega, by first | omega | (subst_vars; rfl)⟩)) | (exact Or.inr (Or.inr (⟨by omega, by omega, by rw [← ew8, ← edd]; first | (rw [if_pos (by omega)] at ck; exact ck) | (rw [if_neg (by omega)] at ck; exact ck)⟩))))⟩
  refine w_push kc_m1000000002 ?_
  refine w_retI rfl ?_
  exact ⟨ok2, fr2, e0, (by first | (exact Or.inl ⟨by omega, by first | omega | (subst_vars; rfl)⟩) | (exact Or.inr (Or.inl ⟨by omega, by omega, by first | omega | (subst_vars; rfl)⟩)) | (exact Or.inr (Or.inr (⟨by omega, by omega, by rw [← ew8, ← edd]; first | (rw [if_pos (by omega)] at ck; exact ck) | (rw [if_neg (by omega)] at ck; exact ck)⟩))))⟩
set_option maxRecDepth 100000 in
set_option maxHeartbeats 4000000 in
theorem e_X8_count {d : Nat} {t : TS} {w : Int}  (ok : OK t) (q0 : HCt t 1) (q1 : -2147483648 ≤ w) (q2 : w ≤ 2147483647) : CI (EX FU (d + 3)) 118 [.ref 0, .int (jI w)] (mk t) (fun z t' => t = t' ∧ (((w = 0) ∧ z = tI t 1 10) ∨ ((w = 1) ∧ z = tI t 1 13) ∨ ((w = 2) ∧ z = tI t 1 12) ∨ ((w = 3) ∧ z = tI t 1 10 - cnX t 1 0) ∨ ((w = 4) ∧ z = tI t 1 11) ∨ ((w = 5) ∧ z = tI t 0 8) ∨ ((w = 6) ∧ z = tI t 37 1) ∨ ((w = 7) ∧ z = tI t 1 14) ∨ ((¬ (0 ≤ w ∧ w ≤ 7)) ∧ z = (-1000000001)))) := by
  refine CI_ent (d := d + 2) (Bk := bX8_count) (nL := 2) rfl rfl rfl (Nat.le_of_ble_eq_true rfl) ?_
  show Rn _ 1000000 0 [some (.ref 0), some (.int (jI w))] [] _ _
  have hn0 := (ok.f fe_1_10).1
  have hn1 := (ok.f fe_1_10).2
  refine w_step rfl ?_
  refine w_iload rfl ?_
  have hs1 : w = 0 ∨ w = 1 ∨ w = 2 ∨ w = 3 ∨ w = 4 ∨ w = 5 ∨ w = 6 ∨ w = 7 ∨ (w < 0 ∨ 0 + 8 ≤ w) := (by omega)
  rcases hs1 with hs1 | hs1 | hs1 | hs1 | hs1 | hs1 | hs1 | hs1 | hs1
  · refine w_sw (n := 1) (tsw_at hs1 (by decide)) ?_
    refine w_step rfl ?_
    refine w_aload rfl ?_
    refine w_getR (g_0_0 _) ?_
    refine w_getI (g_1_10 _) fe_1_10 ok (fun z2 hz2 hl2 hh2 => ?_)
    refine w_retI rfl ?_
    exact ⟨rfl, (by first | (exact Or.inl ⟨by omega, by omega⟩) | (exact Or.inr (Or.inl ⟨by omega, by omega⟩)) | (exact Or.inr (Or.inr (Or.inl ⟨by omega, by omega⟩))) | (exact Or.inr (Or.inr (Or.inr (Or.inl ⟨by omega, by omega⟩)))) | (exact Or.inr (Or.inr (Or.inr (Or.inr (Or.inl ⟨by omega, by omega⟩))))) | (exact Or.inr (Or.inr (Or.inr (Or.inr (Or.inr (Or.inl ⟨by omega, by omega⟩)))))) | (exact Or.inr (Or.inr (Or.inr (Or.inr (Or.inr (Or.inr (Or.inl ⟨by omega, by omega⟩))))))) | (exact Or.inr (Or.inr (Or.inr (Or.inr (Or.inr (Or.inr (Or.inr (Or.inl ⟨by omega, by omega⟩)))))))) | (exact Or.inr (Or.inr (Or.inr (Or.inr (Or.inr (Or.inr (Or.inr (Or.inr (⟨by omega, by first | omega | (subst_vars; rfl)⟩))))))))))⟩
  · refine w_sw (n := 2) (tsw_at hs1 (by decide)) ?_
    refine w_step rfl ?_
    refine w_aload rfl ?_
    refine w_getR (g_0_0 _) ?_
    refine w_getI (g_1_13 _) fe_1_13 ok (fun z3 hz3 hl3 hh3 => ?_)
    refine w_retI rfl ?_
    exact ⟨rfl, (by first | (exact Or.inl ⟨by omega, by omega⟩) | (exact Or.inr (Or.inl ⟨by omega, by omega⟩)) | (exact Or.inr (Or.inr (Or.inl ⟨by omega, by omega⟩))) | (exact Or.inr (Or.inr (Or.inr (Or.inl ⟨by omega, by omega⟩)))) | (exact Or.inr (Or.inr (Or.inr (Or.inr (Or.inl ⟨by omega, by omega⟩))))) | (exact Or.inr (Or.inr (Or.inr (Or.inr (Or.inr (Or.inl ⟨by omega, by omega⟩)))))) | (exact Or.inr (Or.inr (Or.inr (Or.inr (Or.inr (Or.inr (Or.inl ⟨by omega, by omega⟩))))))) | (exact Or.inr (Or.inr (Or.inr (Or.inr (Or.inr (Or.inr (Or.inr (Or.inl ⟨by omega, by omega⟩)))))))) | (exact Or.inr (Or.inr (Or.inr (Or.inr (Or.inr (Or.inr (Or.inr (Or.inr (⟨by omega, by first | omega | (subst_vars; rfl)⟩))))))))))⟩
  · refine w_sw (n := 3) (tsw_at hs1 (by decide)) ?_
    refine w_step rfl ?_
    refine w_aload rfl ?_
    refine w_getR (g_0_0 _) ?_
    refine w_getI (g_1_12 _) fe_1_12 ok (fun z4 hz4 hl4 hh4 => ?_)
    refine w_retI rfl ?_
    exact ⟨rfl, (by first | (exact Or.inl ⟨by omega, by omega⟩) | (exact Or.inr (Or.inl ⟨by omega, by omega⟩)) | (exact Or.inr (Or.inr (Or.inl ⟨by omega, by omega⟩))) | (exact Or.inr (Or.inr (Or.inr (Or.inl ⟨by omega, by omega⟩)))) | (exact Or.inr (Or.inr (Or.inr (Or.inr (Or.inl ⟨by omega, by omega⟩))))) | (exact Or.inr (Or.inr (Or.inr (Or.inr (Or.inr (Or.inl ⟨by omega, by omega⟩)))))) | (exact Or.inr (Or.inr (Or.inr (Or.inr (Or.inr (Or.inr (Or.inl ⟨by omega, by omega⟩))))))) | (exact Or.inr (Or.inr (Or.inr (Or.inr (Or.inr (Or.inr (Or.inr (Or.inl ⟨by omega, by omega⟩)))))))) | (exact Or.inr (Or.inr (Or.inr (Or.inr (Or.inr (Or.inr (Or.inr (Or.inr (⟨by omega, by first | omega | (subst_vars; rfl)⟩))))))))))⟩
  · refine w_sw (n := 4) (tsw_at hs1 (by decide)) ?_
    refine w_step rfl ?_
    refine w_aload rfl ?_
    refine w_getR (g_0_0 _) ?_
    refine w_getI (g_1_10 _) fe_1_10 ok (fun z5 hz5 hl5 hh5 => ?_)
    refine w_aload rfl ?_
    refine w_getR (g_0_0 _) ?_
    refine w_callV0I (oj_1 _).choose_spec rfl (e_X4_laidStones isT1 ok) ?_
    rintro z6 t6 ⟨rfl, hp6_0, hp6_1, hp6_2⟩
    have ecn : z6 = cnX t 1 0 := by rw [hp6_0]; exact cnC q0
    have ecr := cn_r (tA t 7) 12
    refine w_sub ?_
    refine w_retI rfl ?_
    exact ⟨rfl, (by first | (exact Or.inl ⟨by omega, by omega⟩) | (exact Or.inr (Or.inl ⟨by omega, by omega⟩)) | (exact Or.inr (Or.inr (Or.inl ⟨by omega, by omega⟩))) | (exact Or.inr (Or.inr (Or.inr (Or.inl ⟨by omega, by omega⟩)))) | (exact Or.inr (Or.inr (Or.inr (Or.inr (Or.inl ⟨by omega, by omega⟩))))) | (exact Or.inr (Or.inr (Or.inr (Or.inr (Or.inr (Or.inl ⟨by omega, by omega⟩)))))) | (exact Or.inr (Or.inr (Or.inr (Or.inr (Or.inr (Or.inr (Or.inl ⟨by omega, by omega⟩))))))) | (exact Or.inr (Or.inr (Or.inr (Or.inr (Or.inr (Or.inr (Or.inr (Or.inl ⟨by omega, by omega⟩)))))))) | (exact Or.inr (Or.inr (Or.inr (Or.inr (Or.inr (Or.inr (Or.inr (Or.inr (⟨by omega, by first | omega | (subst_vars; rfl)⟩))))))))))⟩
  · refine w_sw (n := 5) (tsw_at hs1 (by decide)) ?_
    refine w_step rfl ?_
    refine w_aload rfl ?_
    refine w_getR (g_0_0 _) ?_
    refine w_getI (g_1_11 _) fe_1_11 ok (fun z7 hz7 hl7 hh7 => ?_)
    refine w_retI rfl ?_
    exact ⟨rfl, (by first | (exact Or.inl ⟨by omega, by omega⟩) | (exact Or.inr (Or.inl ⟨by omega, by omega⟩)) | (exact Or.inr (Or.inr (Or.inl ⟨by omega, by omega⟩))) | (exact Or.inr (Or.inr (Or.inr (Or.inl ⟨by omega, by omega⟩)))) | (exact Or.inr (Or.inr (Or.inr (Or.inr (Or.inl ⟨by omega, by omega⟩))))) | (exact Or.inr (Or.inr (Or.inr (Or.inr (Or.inr (Or.inl ⟨by omega, by omega⟩)))))) | (exact Or.inr (Or.inr (Or.inr (Or.inr (Or.inr (Or.inr (Or.inl ⟨by omega, by omega⟩))))))) | (exact Or.inr (Or.inr (Or.inr (Or.inr (Or.inr (Or.inr (Or.inr (Or.inl ⟨by omega, by omega⟩)))))))) | (exact Or.inr (Or.inr (Or.inr (Or.inr (Or.inr (Or.inr (Or.inr (Or.inr (⟨by omega, by first | omega | (subst_vars; rfl)⟩))))))))))⟩
  · refine w_sw (n := 6) (tsw_at hs1 (by decide)) ?_
    refine w_step rfl ?_
    refine w_aload rfl ?_
    refine w_getI (g_0_8 _) fe_0_8 ok (fun z8 hz8 hl8 hh8 => ?_)
    refine w_retI rfl ?_
    exact ⟨rfl, (by first | (exact Or.inl ⟨by omega, by omega⟩) | (exact Or.inr (Or.inl ⟨by omega, by omega⟩)) | (exact Or.inr (Or.inr (Or.inl ⟨by omega, by omega⟩))) | (exact Or.inr (Or.inr (Or.inr (Or.inl ⟨by omega, by omega⟩)))) | (exact Or.inr (Or.inr (Or.inr (Or.inr (Or.inl ⟨by omega, by omega⟩))))) | (exact Or.inr (Or.inr (Or.inr (Or.inr (Or.inr (Or.inl ⟨by omega, by omega⟩)))))) | (exact Or.inr (Or.inr (Or.inr (Or.inr (Or.inr (Or.inr (Or.inl ⟨by omega, by omega⟩))))))) | (exact Or.inr (Or.inr (Or.inr (Or.inr (Or.inr (Or.inr (Or.inr (Or.inl ⟨by omega, by omega⟩)))))))) | (exact Or.inr (Or.inr (Or.inr (Or.inr (Or.inr (Or.inr (Or.inr (Or.inr (⟨by omega, by first | omega | (subst_vars; rfl)⟩))))))))))⟩
  · refine w_sw (n := 7) (tsw_at hs1 (by decide)) ?_
    refine w_step rfl ?_
    refine w_aload rfl ?_
    refine w_getR (g_0_3 _) ?_
    refine w_getI (g_37_1 _) fe_37_1 ok (fun z9 hz9 hl9 hh9 => ?_)
    refine w_retI rfl ?_
    exact ⟨rfl, (by first | (exact Or.inl ⟨by omega, by omega⟩) | (exact Or.inr (Or.inl ⟨by omega, by omega⟩)) | (exact Or.inr (Or.inr (Or.inl ⟨by omega, by omega⟩))) | (exact Or.inr (Or.inr (Or.inr (Or.inl ⟨by omega, by omega⟩)))) | (exact Or.inr (Or.inr (Or.inr (Or.inr (Or.inl ⟨by omega, by omega⟩))))) | (exact Or.inr (Or.inr (Or.inr (Or.inr (Or.inr (Or.inl ⟨by omega, by omega⟩)))))) | (exact Or.inr (Or.inr (Or.inr (Or.inr (Or.inr (Or.inr (Or.inl ⟨by omega, by omega⟩))))))) | (exact Or.inr (Or.inr (Or.inr (Or.inr (Or.inr (Or.inr (Or.inr (Or.inl ⟨by omega, by omega⟩)))))))) | (exact Or.inr (Or.inr (Or.inr (Or.inr (Or.inr (Or.inr (Or.inr (Or.inr (⟨by omega, by first | omega | (subst_vars; rfl)⟩))))))))))⟩
  · refine w_sw (n := 8) (tsw_at hs1 (by decide)) ?_
    refine w_step rfl ?_
    refine w_aload rfl ?_
    refine w_getR (g_0_0 _) ?_
    refine w_getI (g_1_14 _) fe_1_14 ok (fun z10 hz10 hl10 hh10 => ?_)
    refine w_retI rfl ?_
    exact ⟨rfl, (by first | (exact Or.inl ⟨by omega, by omega⟩) | (exact Or.inr (Or.inl ⟨by omega, by omega⟩)) | (exact Or.inr (Or.inr (Or.inl ⟨by omega, by omega⟩))) | (exact Or.inr (Or.inr (Or.inr (Or.inl ⟨by omega, by omega⟩)))) | (exact Or.inr (Or.inr (Or.inr (Or.inr (Or.inl ⟨by omega, by omega⟩))))) | (exact Or.inr (Or.inr (Or.inr (Or.inr (Or.inr (Or.inl ⟨by omega, by omega⟩)))))) | (exact Or.inr (Or.inr (Or.inr (Or.inr (Or.inr (Or.inr (Or.inl ⟨by omega, by omega⟩))))))) | (exact Or.inr (Or.inr (Or.inr (Or.inr (Or.inr (Or.inr (Or.inr (Or.inl ⟨by omega, by omega⟩)))))))) | (exact Or.inr (Or.inr (Or.inr (Or.inr (Or.inr (Or.inr (Or.inr (Or.inr (⟨by omega, by first | omega | (subst_vars; rfl)⟩))))))))))⟩
  · refine w_sw (n := 9) (tsw_df (m := 8) rfl (by omega) (by omega)) ?_
    refine w_step rfl ?_
    refine w_push kc_m1000000001 ?_
    refine w_retI rfl ?_
    exact ⟨rfl, (by first | (exact Or.inl ⟨by omega, by omega⟩) | (exact Or.inr (Or.inl ⟨by omega, by omega⟩)) | (exact Or.inr (Or.inr (Or.inl ⟨by omega, by omega⟩))) | (exact Or.inr (Or.inr (Or.inr (Or.inl ⟨by omega, by omega⟩)))) | (exact Or.inr (Or.inr (Or.inr (Or.inr (Or.inl ⟨by omega, by omega⟩))))) | (exact Or.inr (Or.inr (Or.inr (Or.inr (Or.inr (Or.inl ⟨by omega, by omega⟩)))))) | (exact Or.inr (Or.inr (Or.inr (Or.inr (Or.inr (Or.inr (Or.inl ⟨by omega, by omega⟩))))))) | (exact Or.inr (Or.inr (Or.inr (Or.inr (Or.inr (Or.inr (Or.inr (Or.inl ⟨by omega, by omega⟩)))))))) | (exact Or.inr (Or.inr (Or.inr (Or.inr (Or.inr (Or.inr (Or.inr (Or.inr (⟨by omega, by first | omega | (subst_vars; rfl)⟩))))))))))⟩
end
