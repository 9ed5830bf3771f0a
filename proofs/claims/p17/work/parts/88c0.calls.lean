theorem at_c {t : TS} {p : Int} (h : HCt t 1) (hp : 0 ≤ p ∧ p < 12) : tA t 7 p.toNat = atX t 1 0 p := by
  have e := h.1 p.toNat (by omega)
  rw [Int.toNat_of_nonneg hp.1] at e
  exact e
theorem fl_c {t : TS} {p : Int} {hv : Nat → Int} (h : HCt t 1) (hp : 0 ≤ p ∧ p ≤ 12) : flF hv (tA t (1 + 6)) p.toNat = flF hv (HF (CP t 1).1 (tI t 1 10).toNat) p.toNat := by
  unfold flF
  exact faS_cg (fun q hq => ⟨h.HF q hq, fun _ => rfl⟩) _ _ _ _ (by omega)
theorem oc_fr {S : List (Nat × Nat)} {t u : TS} (f : Fr S t u) {b : Nat} (h7 : (b + 7, 100) ∉ S) (h8 : (b + 8, 100) ∉ S) : OC u b = OC t b := by
  unfold OC
  rw [funext (f.2.1 _ h7), funext (f.2.1 _ h8)]
theorem lo_h {S : List (Nat × Nat)} {t u : TS} (h : HCt t 1) (f : Fr S t u) (h5 : (5, 100) ∉ S) (h7 : (7, 100) ∉ S) (h10 : (1, 10) ∉ S) : HCt u 1 := by
  have e5 := funext (f.2.1 _ h5)
  have e7 := funext (f.2.1 _ h7)
  unfold HCt
  rw [show 1 + 6 = 7 from rfl, show 1 + 4 = 5 from rfl, e5, e7, f.1 _ _ h10]
  exact h
theorem lo_c {S : List (Nat × Nat)} {t u : TS} {s k : Nat} (f : Fr S t u) (h5 : (5, 100) ∉ S) (h6 : (6, 100) ∉ S) (h8 : (8, 100) ∉ S) (h9 : (9, 100) ∉ S) (h10 : (1, 10) ∉ S) (h12 : (1, 12) ∉ S) (h14 : (1, 14) ∉ S) : picG (tI u 1 10).toNat (OC u 1) (dysF (tI u 1 10).toNat (OC u 1) (tI u 1 12) (tI u 1 14) k (upF (tA u 5) s 13, tA u 6)) = picG (tI t 1 10).toNat (OC t 1) (dysF (tI t 1 10).toNat (OC t 1) (tI t 1 12) (tI t 1 14) k (upF (tA t 5) s 13, tA t 6)) := by
  rw [oc_fr f h8 h9, f.1 _ _ h10, f.1 _ _ h12, f.1 _ _ h14, funext (f.2.1 _ h5), funext (f.2.1 _ h6)]
theorem ck_h {S : List (Nat × Nat)} {t u : TS} (h : HCt t 12) (f : Fr S t u) (h5 : (16, 100) ∉ S) (h7 : (18, 100) ∉ S) (h10 : (12, 10) ∉ S) : HCt u 12 := by
  have e5 := funext (f.2.1 _ h5)
  have e7 := funext (f.2.1 _ h7)
  unfold HCt
  rw [show 12 + 6 = 18 from rfl, show 12 + 4 = 16 from rfl, e5, e7, f.1 _ _ h10]
  exact h
theorem ck_c {S : List (Nat × Nat)} {t u : TS} {m d z : Int} (f : Fr S t u) (h : CkP (pcX u 12) (mtX u 12) (tA u 44) m d z) (h44 : (44, 100) ∉ S) (h14 : (14, 100) ∉ S) (h15 : (15, 100) ∉ S) (h16 : (16, 100) ∉ S) (h17 : (17, 100) ∉ S) (h19 : (19, 100) ∉ S) (h20 : (20, 100) ∉ S) (k10 : (12, 10) ∉ S) (k12 : (12, 12) ∉ S) (k14 : (12, 14) ∉ S) : CkP (pcX t 12) (mtX t 12) (tA t 44) m d z := by
  have x : ∀ k, xG u 12 k = xG t 12 k := by
    intro k
    unfold xG
    rw [oc_fr f h19 h20, f.1 _ _ k10, f.1 _ _ k12, f.1 _ _ k14]
    unfold CP
    rw [show 12 + 4 = 16 from rfl, show 12 + 5 = 17 from rfl, funext (f.2.1 _ h16), funext (f.2.1 _ h17)]
  have e1 : pcX u 12 = pcX t 12 := by
    funext k
    unfold pcX
    rw [x, oc_fr f h19 h20, f.1 _ _ k10]
  have e2 : mtX u 12 = mtX t 12 := by
    funext k
    unfold mtX
    rw [x, f.1 _ _ k10, show 12 + 2 = 14 from rfl, show 12 + 3 = 15 from rfl, funext (f.2.1 _ h14), funext (f.2.1 _ h15)]
  rw [e1, e2, funext (f.2.1 _ h44)] at h
  exact h
theorem by_s {t u v w : TS} {x i z y : Int} (hi : 0 ≤ i ∧ i ≤ 24 ∧ i % 8 = 0) (h : tI u 37 1 = tI t 37 1 + (24 - i) / 8) (g : ∀ m : Nat, tA u 38 m = if tI t 37 1 ≤ (m : Int) ∧ (m : Int) < tI t 37 1 + (24 - i) / 8 then byF x (24 - 8 * ((m : Int) - tI t 37 1)) else tA t 38 m) (hz : z = tI u 37 1) (e : v = uA u 38 z.toNat y) (e2 : ∀ m, tA w 38 m = tA v 38 m) (hy : y = byF x i) (h0 : 0 ≤ tI t 37 1) : ∀ m : Nat, tA w 38 m = if tI t 37 1 ≤ (m : Int) ∧ (m : Int) < tI t 37 1 + (24 - (i + (-8))) / 8 then byF x (24 - 8 * ((m : Int) - tI t 37 1)) else tA t 38 m := by
  intro m
  rw [e2, e, tA_uA, g]
  by_cases q : m = z.toNat
  · rw [if_pos ⟨rfl, q⟩, if_pos (by omega), hy]
    congr 1
    omega
  · rw [if_neg (fun k => q k.2)]
    by_cases q2 : tI t 37 1 ≤ (m : Int) ∧ (m : Int) < tI t 37 1 + (24 - i) / 8
    · rw [if_pos q2, if_pos (by omega)]
    · rw [if_neg q2, if_neg (by omega)]
theorem fd_c {t a b c : TS} {x y w : Int} (h0 : 0 ≤ tI t 37 1) (a1 : tI a 37 1 = tI t 37 1 + 4) (a2 : tI b 37 1 = tI a 37 1 + 4) (b1 : ∀ m : Nat, tA a 38 m = if tI t 37 1 ≤ (m : Int) ∧ (m : Int) < tI t 37 1 + 4 then byF x (24 - 8 * ((m : Int) - tI t 37 1)) else tA t 38 m) (b2 : ∀ m : Nat, tA b 38 m = if tI a 37 1 ≤ (m : Int) ∧ (m : Int) < tI a 37 1 + 4 then byF y (24 - 8 * ((m : Int) - tI a 37 1)) else tA a 38 m) (b3 : ∀ m : Nat, tA c 38 m = if tI b 37 1 ≤ (m : Int) ∧ (m : Int) < tI b 37 1 + 4 then byF w (24 - 8 * ((m : Int) - tI b 37 1)) else tA b 38 m) : ∀ m : Nat, tA c 38 m = if tI t 37 1 ≤ (m : Int) ∧ (m : Int) < tI t 37 1 + 12 then fbF x y w (m - (tI t 37 1).toNat) else tA t 38 m := by
  intro m
  rw [b3]
  by_cases q3 : tI b 37 1 ≤ (m : Int) ∧ (m : Int) < tI b 37 1 + 4
  · rw [if_pos q3, if_pos (by omega)]
    unfold fbF
    rw [if_neg (by omega), if_neg (by omega)]
    congr 1
    omega
  · rw [if_neg q3, b2]
    by_cases q2 : tI a 37 1 ≤ (m : Int) ∧ (m : Int) < tI a 37 1 + 4
    · rw [if_pos q2, if_pos (by omega)]
      unfold fbF
      rw [if_neg (by omega), if_pos (by omega)]
      congr 1
      omega
    · rw [if_neg q2, b1]
      by_cases q1 : tI t 37 1 ≤ (m : Int) ∧ (m : Int) < tI t 37 1 + 4
      · rw [if_pos q1, if_pos (by omega)]
        unfold fbF
        rw [if_pos (by omega)]
        congr 1
        omega
      · rw [if_neg q1, if_neg (by omega)]
set_option maxRecDepth 100000 in
set_option maxHeartbeats 4000000 in
theorem e_X8_king {d : Nat} {t : TS} {w : Int}  (ok : OK t) (q0 : HCt t 1) (q1 : -2147483648 ≤ w) (q2 : w ≤ 2147483647) : CI (EX FU (d + 4)) 87 [.ref 0, .int (jI w)] (mk t) (fun z t' => t = t' ∧ (((w = 0) ∧ z = pcX t 1 0) ∨ ((w = 1) ∧ z = mtX t 1 0) ∨ ((w = 2) ∧ z = cnX t 1 0) ∨ ((w = 3) ∧ z = phG (tI t 1 10).toNat (CP t 1)) ∨ ((¬ (0 ≤ w ∧ w ≤ 3)) ∧ z = (-1000000001)))) := by
  refine CI_ent (d := d + 3) (Bk := bX8_king) (nL := 2) rfl rfl rfl (Nat.le_of_ble_eq_true rfl) ?_
  show Rn _ 1000000 0 [some (.ref 0), some (.int (jI w))] [] _ _
  have hn0 := (ok.f fe_1_10).1
  have hn1 := (ok.f fe_1_10).2
  have hu6 : ∀ s, 0 ≤ tA t 6 s ∧ tA t 6 s ≤ 1 := fun s => ok.a (ae_6 s)
  refine w_step rfl ?_
  refine w_iload rfl ?_
  have hs1 : w = 0 ∨ w = 1 ∨ w = 2 ∨ w = 3 ∨ (w < 0 ∨ 0 + 4 ≤ w) := (by omega)
  rcases hs1 with hs1 | hs1 | hs1 | hs1 | hs1
  · refine w_sw (n := 1) (tsw_at hs1 (by decide)) ?_
    refine w_step rfl ?_
    refine w_aload rfl ?_
    refine w_getR (g_0_0 _) ?_
    refine w_callV0I (oj_1 _).choose_spec rfl (e_X4_picture isT1 ok) ?_
    rintro z2 t2 ⟨rfl, hp2_0, hp2_1, hp2_2⟩
    refine w_retI rfl ?_
    exact ⟨rfl, (by first | (exact Or.inl ⟨by omega, by rw [hp2_2]; exact picC q0 (OC t 1) (fun _ _ _ => rfl) hu6⟩) | (exact Or.inr (Or.inl ⟨by omega, by rw [hp2_2]; exact matC q0⟩)) | (exact Or.inr (Or.inr (Or.inl ⟨by omega, by rw [hp2_0]; exact cnC q0⟩))) | (exact Or.inr (Or.inr (Or.inr (Or.inl ⟨by omega, by rw [hp2_2]; exact phC q0⟩)))) | (exact Or.inr (Or.inr (Or.inr (Or.inr (⟨by omega, by first | omega | (subst_vars; rfl)⟩))))))⟩
  · refine w_sw (n := 2) (tsw_at hs1 (by decide)) ?_
    refine w_step rfl ?_
    refine w_aload rfl ?_
    refine w_getR (g_0_0 _) ?_
    refine w_callV0I (oj_1 _).choose_spec rfl (e_X4_matches isT1 ok) ?_
    rintro z3 t3 ⟨rfl, hp3_0, hp3_1, hp3_2⟩
    refine w_retI rfl ?_
    exact ⟨rfl, (by first | (exact Or.inl ⟨by omega, by rw [hp3_2]; exact picC q0 (OC t 1) (fun _ _ _ => rfl) hu6⟩) | (exact Or.inr (Or.inl ⟨by omega, by rw [hp3_2]; exact matC q0⟩)) | (exact Or.inr (Or.inr (Or.inl ⟨by omega, by rw [hp3_0]; exact cnC q0⟩))) | (exact Or.inr (Or.inr (Or.inr (Or.inl ⟨by omega, by rw [hp3_2]; exact phC q0⟩)))) | (exact Or.inr (Or.inr (Or.inr (Or.inr (⟨by omega, by first | omega | (subst_vars; rfl)⟩))))))⟩
  · refine w_sw (n := 3) (tsw_at hs1 (by decide)) ?_
    refine w_step rfl ?_
    refine w_aload rfl ?_
    refine w_getR (g_0_0 _) ?_
    refine w_callV0I (oj_1 _).choose_spec rfl (e_X4_laidStones isT1 ok) ?_
    rintro z4 t4 ⟨rfl, hp4_0, hp4_1, hp4_2⟩
    refine w_retI rfl ?_
    exact ⟨rfl, (by first | (exact Or.inl ⟨by omega, by rw [hp4_2]; exact picC q0 (OC t 1) (fun _ _ _ => rfl) hu6⟩) | (exact Or.inr (Or.inl ⟨by omega, by rw [hp4_2]; exact matC q0⟩)) | (exact Or.inr (Or.inr (Or.inl ⟨by omega, by rw [hp4_0]; exact cnC q0⟩))) | (exact Or.inr (Or.inr (Or.inr (Or.inl ⟨by omega, by rw [hp4_2]; exact phC q0⟩)))) | (exact Or.inr (Or.inr (Or.inr (Or.inr (⟨by omega, by first | omega | (subst_vars; rfl)⟩))))))⟩
  · refine w_sw (n := 4) (tsw_at hs1 (by decide)) ?_
    refine w_step rfl ?_
    refine w_aload rfl ?_
    refine w_getR (g_0_0 _) ?_
    refine w_callV0I (oj_1 _).choose_spec rfl (e_X4_placesHeld isT1 ok) ?_
    rintro z5 t5 ⟨rfl, hp5_0, hp5_1, hp5_2⟩
    refine w_retI rfl ?_
    exact ⟨rfl, (by first | (exact Or.inl ⟨by omega, by rw [hp5_2]; exact picC q0 (OC t 1) (fun _ _ _ => rfl) hu6⟩) | (exact Or.inr (Or.inl ⟨by omega, by rw [hp5_2]; exact matC q0⟩)) | (exact Or.inr (Or.inr (Or.inl ⟨by omega, by rw [hp5_0]; exact cnC q0⟩))) | (exact Or.inr (Or.inr (Or.inr (Or.inl ⟨by omega, by rw [hp5_2]; exact phC q0⟩)))) | (exact Or.inr (Or.inr (Or.inr (Or.inr (⟨by omega, by first | omega | (subst_vars; rfl)⟩))))))⟩
  · refine w_sw (n := 5) (tsw_df (m := 4) rfl (by omega) (by omega)) ?_
    refine w_step rfl ?_
    refine w_push kc_m1000000001 ?_
    refine w_retI rfl ?_
    exact ⟨rfl, (by first | (exact Or.inl ⟨by omega, by rw [hp99qq_2]; exact picC q0 (OC t 1) (fun _ _ _ => rfl) hu6⟩) | (exact Or.inr (Or.inl ⟨by omega, by rw [hp99qq_2]; exact matC q0⟩)) | (exact Or.inr (Or.inr (Or.inl ⟨by omega, by rw [hp99qq_0]; exact cnC q0⟩))) | (exact Or.inr (Or.inr (Or.inr (Or.inl ⟨by omega, by rw [hp99qq_2]; exact phC q0⟩)))) | (exact Or.inr (Or.inr (Or.inr (Or.inr (⟨by omega, by first | omega | (subst_vars; rfl)⟩))))))⟩
set_option maxRecDepth 100000 in
set_option maxHeartbeats 4000000 in
theorem e_X8_at {d : Nat} {t : TS} {p : Int}  (ok : OK t) (q0 : HCt t 1) (q1 : -2147483648 ≤ p) (q2 : p ≤ 2147483647) : CI (EX FU (d + 3)) 88 [.ref 0, .int (jI p)] (mk t) (fun z t' => t = t' ∧ (((¬ (0 ≤ p ∧ p ≤ 11)) ∧ z = (-1000000001)) ∨ ((0 ≤ p ∧ p ≤ 11) ∧ (atX t 1 0 p = -1) ∧ z = (-1000000005)) ∨ ((0 ≤ p ∧ p ≤ 11) ∧ (¬ atX t 1 0 p = -1) ∧ z = atX t 1 0 p))) := by
  refine CI_ent (d := d + 2) (Bk := bX8_at) (nL := 2) rfl rfl rfl (Nat.le_of_ble_eq_true rfl) ?_
  show Rn _ 1000000 0 [some (.ref 0), some (.int (jI p))] [] _ _
  have hn0 := (ok.f fe_1_10).1
  have hn1 := (ok.f fe_1_10).2
  refine w_step rfl ?_
  refine w_iload rfl ?_
  refine w_callS1I rfl (c_X8_isPlace ok (by omega) (by omega)) ?_
  rintro z1 t1 ⟨rfl, hp1_0⟩
  rcases hp1_0 with ⟨rfl, hp1_0⟩ | ⟨rfl, hp1_0⟩
  · skip
    refine w_ieq (by omega) (fun _ => ?_) (fun h => absurd (by omega) h)
    refine w_step rfl ?_
    refine w_push kc_m1000000001 ?_
    refine w_goto ?_
    refine w_step rfl ?_
    refine w_retI rfl ?_
    exact ⟨rfl, (by (try rcases hL with hL | hL) <;> first | (exact Or.inl ⟨by omega, by first | omega | (subst_vars; rfl)⟩) | (exact Or.inr (Or.inl ⟨by omega, by omega, by first | omega | (subst_vars; rfl)⟩)) | (exact Or.inr (Or.inr (⟨by omega, by omega, by omega⟩))))⟩
  refine w_ieq (by omega) (fun h => absurd h (by omega)) (fun _ => ?_)
  refine w_aload rfl ?_
  refine w_getR (g_0_0 _) ?_
  refine w_getR (g_1_5 _) ?_
  refine w_iload rfl ?_
  refine w_iald (i := (p).toNat) (ai_7 _) (by omega) (by omega) (ae_7 _) ok (fun z2 hz2 hl2 hh2 => ?_)
  have eh : z2 = atX t 1 0 p := by rw [hz2]; exact at_c q0 (by omega)
  refine w_callS1I rfl (c_X8_stoneOrNone ok (by omega) (by omega)) ?_
  rintro z3 t3 ⟨rfl, hp3_0⟩
  have hL := hp3_0
  refine w_goto ?_
  refine w_step rfl ?_
  refine w_retI rfl ?_
  exact ⟨rfl, (by (try rcases hL with hL | hL) <;> first | (exact Or.inl ⟨by omega, by first | omega | (subst_vars; rfl)⟩) | (exact Or.inr (Or.inl ⟨by omega, by omega, by first | omega | (subst_vars; rfl)⟩)) | (exact Or.inr (Or.inr (⟨by omega, by omega, by omega⟩))))⟩
set_option maxRecDepth 100000 in
set_option maxHeartbeats 4000000 in
theorem e_X8_bestFor {d : Nat} {t : TS} {p w : Int}  (ok : OK t) (q0 : -2147483648 ≤ p) (q1 : p ≤ 2147483647) (q2 : -2147483648 ≤ w) (q3 : w ≤ 2147483647) : CI (EX FU (d + 4)) 90 [.ref 0, .int (jI p), .int (jI w)] (mk t) (fun z t' => t = t' ∧ (((¬ (0 ≤ p ∧ p ≤ 11 ∧ 0 ≤ w ∧ w ≤ 1)) ∧ z = (-1000000001)) ∨ ((0 ≤ p ∧ p ≤ 11 ∧ 0 ≤ w ∧ w ≤ 1) ∧ z = bfA (bfF (fun s => min (OC t 1 s p.toNat 0) (OC t 1 s p.toNat 1)) (tI t 1 10).toNat) w))) := by
  refine CI_ent (d := d + 3) (Bk := bX8_bestFor) (nL := 7) rfl rfl rfl (Nat.le_of_ble_eq_true rfl) ?_
  show Rn _ 1000000 0 [some (.ref 0), some (.int (jI p)), some (.int (jI w)), none, none, none, none] [] _ _
  have hn0 := (ok.f fe_1_10).1
  have hn1 := (ok.f fe_1_10).2
  refine w_step rfl ?_
  refine w_iload rfl ?_
  refine w_callS1I rfl (c_X8_isPlace ok (by omega) (by omega)) ?_
  rintro z1 t1 ⟨rfl, hp1_0⟩
  rcases hp1_0 with ⟨rfl, hp1_0⟩ | ⟨rfl, hp1_0⟩
  · skip
    refine w_ieq (by omega) (fun _ => ?_) (fun h => absurd (by omega) h)
    refine w_step rfl ?_
    refine w_push kc_m1000000001 ?_
    refine w_retI rfl ?_
    exact ⟨rfl, (by first | (exact Or.inl ⟨by omega, by first | omega | (subst_vars; rfl)⟩) | (exact Or.inr (⟨by omega, by rw [show s.toNat = (tI t 1 10).toNat by omega] at i3_7; exact bfC_a i3_7 (by omega)⟩)))⟩
  refine w_ieq (by omega) (fun h => absurd h (by omega)) (fun _ => ?_)
  refine w_iload rfl ?_
  refine w_push kc_0 ?_
  refine w_push kc_1 ?_
  refine w_callS3I rfl (c_X8_within ok (by omega) (by omega) (by omega) (by omega) (by omega) (by omega)) ?_
  rintro z2 t2 ⟨rfl, hp2_0⟩
  rcases hp2_0 with ⟨rfl, hp2_0⟩ | ⟨rfl, hp2_0⟩
  · skip
    refine w_ine (by omega) (fun h => absurd h (by omega)) (fun _ => ?_)
    refine w_goto ?_
    refine w_step rfl ?_
    refine w_push kc_m1000000001 ?_
    refine w_retI rfl ?_
    exact ⟨rfl, (by first | (exact Or.inl ⟨by omega, by first | omega | (subst_vars; rfl)⟩) | (exact Or.inr (⟨by omega, by rw [show s.toNat = (tI t 1 10).toNat by omega] at i3_7; exact bfC_a i3_7 (by omega)⟩)))⟩
  refine w_ine (by omega) (fun _ => ?_) (fun h => absurd (by omega) h)
  refine w_step rfl ?_
  refine w_push kc_m1000000005 ?_
  refine w_istore (lv' := [some (.ref 0), some (.int (jI p)), some (.int (jI w)), some (.int (jI (-1000000005))), none, none, none]) rfl ?_
  refine w_push kc_m1000000005 ?_
  refine w_istore (lv' := [some (.ref 0), some (.int (jI p)), some (.int (jI w)), some (.int (jI (-1000000005))), some (.int (jI (-1000000005))), none, none]) rfl ?_
  refine w_push kc_0 ?_
  refine w_istore (lv' := [some (.ref 0), some (.int (jI p)), some (.int (jI w)), some (.int (jI (-1000000005))), some (.int (jI (-1000000005))), some (.int (jI 0)), none]) rfl ?_
  refine w_goto ?_
  have key3 : ∀ (n3 M3 : Nat) (least : Int) (which : Int) (s : Int) (o6 : Option Int), (-2147483648 ≤ least) → (least ≤ 2147483647) → (-2147483648 ≤ which) → (which ≤ 2147483647) → (0 ≤ s) → (s ≤ 12) → (s ≤ tI t 1 10) → (bfC (fun s => min (OC t 1 s p.toNat 0) (OC t 1 s p.toNat 1)) s.toNat least which) → 12 - s < (n3 : Int) → 60 * n3 + (1000) ≤ M3 → Rn (bX8_bestFor (EX FU (d + 3))) M3 3 [some (.ref 0), some (.int (jI p)), some (.int (jI w)), some (.int (jI least)), some (.int (jI which)), some (.int (jI s)), dv o6] [] (mk t) (PI (fun z t' => t = t' ∧ (((¬ (0 ≤ p ∧ p ≤ 11 ∧ 0 ≤ w ∧ w ≤ 1)) ∧ z = (-1000000001)) ∨ ((0 ≤ p ∧ p ≤ 11 ∧ 0 ≤ w ∧ w ≤ 1) ∧ z = bfA (bfF (fun s => min (OC t 1 s p.toNat 0) (OC t 1 s p.toNat 1)) (tI t 1 10).toNat) w)))) := by
    intro n3
    induction n3 with
    | zero => intro M3 least which s o6 i3_0 i3_1 i3_2 i3_3 i3_4 i3_5 i3_6 i3_7 v3 f3; exfalso; omega
    | succ n3 ih3 =>
      intro M3 least which s o6 i3_0 i3_1 i3_2 i3_3 i3_4 i3_5 i3_6 i3_7 v3 f3
      obtain ⟨M3, rfl⟩ : ∃ m, M3 = m + 60 := ⟨M3 - 60, by omega⟩
      refine w_step rfl ?_
      refine w_iload rfl ?_
      refine w_aload rfl ?_
      refine w_getR (g_0_0 _) ?_
      refine w_getI (g_1_10 _) fe_1_10 ok (fun z3 hz3 hl3 hh3 => ?_)
      refine w_cge (by omega) (fun h4 => ?_) (fun h4 => ?_)
      · skip
        refine w_step rfl ?_
        refine w_iload rfl ?_
        refine w_ine (by omega) (fun h5 => ?_) (fun h5 => ?_)
        · skip
          refine w_step rfl ?_
          refine w_iload rfl ?_
          refine w_goto ?_
          refine w_step rfl ?_
          refine w_retI rfl ?_
          exact ⟨rfl, (by first | (exact Or.inl ⟨by omega, by first | omega | (subst_vars; rfl)⟩) | (exact Or.inr (⟨by omega, by rw [show s.toNat = (tI t 1 10).toNat by omega] at i3_7; exact bfC_a i3_7 (by omega)⟩)))⟩
        refine w_iload rfl ?_
        refine w_goto ?_
        refine w_step rfl ?_
        refine w_retI rfl ?_
        exact ⟨rfl, (by first | (exact Or.inl ⟨by omega, by first | omega | (subst_vars; rfl)⟩) | (exact Or.inr (⟨by omega, by rw [show s.toNat = (tI t 1 10).toNat by omega] at i3_7; exact bfC_a i3_7 (by omega)⟩)))⟩
      refine w_aload rfl ?_
      refine w_getR (g_0_0 _) ?_
      refine w_iload rfl ?_
      refine w_iload rfl ?_
      refine w_callV2I (oj_1 _).choose_spec rfl (e_X4_leastOff isT1 ok (by omega) (by omega) (by omega) (by omega)) ?_
      rintro z6 t6 ⟨rfl, hp6_0, hp6_1, hp6_2⟩
      refine w_istore (lv' := [some (.ref 0), some (.int (jI p)), some (.int (jI w)), some (.int (jI least)), some (.int (jI which)), some (.int (jI s)), some (.int (jI z6))]) rfl ?_
      refine w_iload rfl ?_
      refine w_push kc_m1000000005 ?_
      refine w_ceq (by omega) (fun h7 => ?_) (fun h7 => ?_)
      · skip
        refine w_step rfl ?_
        refine w_iload rfl ?_
        refine w_istore (lv' := [some (.ref 0), some (.int (jI p)), some (.int (jI w)), some (.int (jI z6)), some (.int (jI which)), some (.int (jI s)), some (.int (jI z6))]) rfl ?_
        refine w_iload rfl ?_
        refine w_istore (lv' := [some (.ref 0), some (.int (jI p)), some (.int (jI w)), some (.int (jI z6)), some (.int (jI s)), some (.int (jI s)), some (.int (jI z6))]) rfl ?_
        refine w_goto ?_
        refine w_step rfl ?_
        refine w_iinc (lv' := [some (.ref 0), some (.int (jI p)), some (.int (jI w)), some (.int (jI z6)), some (.int (jI s)), some (.int (jI (s + 1))), some (.int (jI z6))]) kc_1 rfl rfl ?_
        refine w_goto ?_
        exact ih3 _ z6 s (s + 1) (some z6)  (by omega) (by omega) (by omega) (by omega) (by omega) (by omega) (by omega) (by first | exact i3_7.y (by omega) hp6_0 (by omega) | exact i3_7.n (by omega) hp6_0 (by omega) | omega) (by omega) (by omega)
      refine w_iload rfl ?_
      refine w_iload rfl ?_
      refine w_cge (by omega) (fun h8 => ?_) (fun h8 => ?_)
      · skip
        refine w_step rfl ?_
        refine w_iinc (lv' := [some (.ref 0), some (.int (jI p)), some (.int (jI w)), some (.int (jI least)), some (.int (jI which)), some (.int (jI (s + 1))), some (.int (jI z6))]) kc_1 rfl rfl ?_
        refine w_goto ?_
        exact ih3 _ least which (s + 1) (some z6)  (by omega) (by omega) (by omega) (by omega) (by omega) (by omega) (by omega) (by first | exact i3_7.y (by omega) hp6_0 (by omega) | exact i3_7.n (by omega) hp6_0 (by omega) | omega) (by omega) (by omega)
      refine w_goto ?_
      refine w_step rfl ?_
      refine w_iload rfl ?_
      refine w_istore (lv' := [some (.ref 0), some (.int (jI p)), some (.int (jI w)), some (.int (jI z6)), some (.int (jI which)), some (.int (jI s)), some (.int (jI z6))]) rfl ?_
      refine w_iload rfl ?_
      refine w_istore (lv' := [some (.ref 0), some (.int (jI p)), some (.int (jI w)), some (.int (jI z6)), some (.int (jI s)), some (.int (jI s)), some (.int (jI z6))]) rfl ?_
      refine w_goto ?_
      refine w_step rfl ?_
      refine w_iinc (lv' := [some (.ref 0), some (.int (jI p)), some (.int (jI w)), some (.int (jI z6)), some (.int (jI s)), some (.int (jI (s + 1))), some (.int (jI z6))]) kc_1 rfl rfl ?_
      refine w_goto ?_
      exact ih3 _ z6 s (s + 1) (some z6)  (by omega) (by omega) (by omega) (by omega) (by omega) (by omega) (by omega) (by first | exact i3_7.y (by omega) hp6_0 (by omega) | exact i3_7.n (by omega) hp6_0 (by omega) | omega) (by omega) (by omega)
  exact key3 13 _ (-1000000005) (-1000000005) 0 none  (by omega) (by omega) (by omega) (by omega) (by omega) (by omega) (by omega) (Or.inl ⟨rfl, rfl, rfl⟩) (by omega) (by omega)
set_option maxRecDepth 100000 in
set_option maxHeartbeats 4000000 in
theorem e_X8_swap {d : Nat} {t : TS}  (ok : OK t) : CI (EX FU (d + 4)) 91 [.ref 0] (mk t) (fun z t' => t = t' ∧ (z = if (swO (gnF (OC t 1) (tA t 5) (tA t 6)) (tI t 1 10).toNat (tI t 1 10).toNat).2 = -1 then -1000000005 else (swO (gnF (OC t 1) (tA t 5) (tA t 6)) (tI t 1 10).toNat (tI t 1 10).toNat).2)) := by
  refine CI_ent (d := d + 3) (Bk := bX8_swap) (nL := 6) rfl rfl rfl (Nat.le_of_ble_eq_true rfl) ?_
  show Rn _ 1000000 0 [some (.ref 0), none, none, none, none, none] [] _ _
  have hn0 := (ok.f fe_1_10).1
  have hn1 := (ok.f fe_1_10).2
  refine w_step rfl ?_
  refine w_push kc_0 ?_
  refine w_istore (lv' := [some (.ref 0), some (.int (jI 0)), none, none, none, none]) rfl ?_
  refine w_push kc_m1000000005 ?_
  refine w_istore (lv' := [some (.ref 0), some (.int (jI 0)), some (.int (jI (-1000000005))), none, none, none]) rfl ?_
  refine w_push kc_0 ?_
  refine w_istore (lv' := [some (.ref 0), some (.int (jI 0)), some (.int (jI (-1000000005))), some (.int (jI 0)), none, none]) rfl ?_
  refine w_goto ?_
  have key1 : ∀ (n1 M1 : Nat) (most : Int) (pair : Int) (x : Int) (o4 : Option Int) (o5 : Option Int), (-2147483648 ≤ most) → (most ≤ 2147483647) → (-2147483648 ≤ pair) → (pair ≤ 2147483647) → (0 ≤ x) → (x ≤ 12) → (x ≤ tI t 1 10) → (swC (-1000000005) (swO (gnF (OC t 1) (tA t 5) (tA t 6)) (tI t 1 10).toNat x.toNat) most pair) → 12 - x < (n1 : Int) → 1500 * n1 + (1000) ≤ M1 → Rn (bX8_swap (EX FU (d + 3))) M1 1 [some (.ref 0), some (.int (jI most)), some (.int (jI pair)), some (.int (jI x)), dv o4, dv o5] [] (mk t) (PI (fun z t' => t = t' ∧ (z = if (swO (gnF (OC t 1) (tA t 5) (tA t 6)) (tI t 1 10).toNat (tI t 1 10).toNat).2 = -1 then -1000000005 else (swO (gnF (OC t 1) (tA t 5) (tA t 6)) (tI t 1 10).toNat (tI t 1 10).toNat).2))) := by
    intro n1
    induction n1 with
    | zero => intro M1 most pair x o4 o5 i1_0 i1_1 i1_2 i1_3 i1_4 i1_5 i1_6 i1_7 v1 f1; exfalso; omega
    | succ n1 ih1 =>
      intro M1 most pair x o4 o5 i1_0 i1_1 i1_2 i1_3 i1_4 i1_5 i1_6 i1_7 v1 f1
      obtain ⟨M1, rfl⟩ : ∃ m, M1 = m + 1500 := ⟨M1 - 1500, by omega⟩
      refine w_step rfl ?_
      refine w_iload rfl ?_
      refine w_aload rfl ?_
      refine w_getR (g_0_0 _) ?_
      refine w_getI (g_1_10 _) fe_1_10 ok (fun z1 hz1 hl1 hh1 => ?_)
      refine w_cge (by omega) (fun h2 => ?_) (fun h2 => ?_)
      · skip
        refine w_step rfl ?_
        refine w_iload rfl ?_
        refine w_retI rfl ?_
        exact ⟨rfl, (by rw [show x.toNat = (tI t 1 10).toNat by omega] at i1_7; exact swC_a i1_7 (Or.inl rfl) (Or.inl ⟨rfl, rfl⟩))⟩
      refine w_iload rfl ?_
      refine w_push kc_1 ?_
      refine w_add ?_
      refine w_istore (lv' := [some (.ref 0), some (.int (jI most)), some (.int (jI pair)), some (.int (jI x)), some (.int (jI (x + 1))), dv o5]) rfl ?_
      refine w_goto ?_
      have key2 : ∀ (n2 M2 : Nat) (most : Int) (pair : Int) (y : Int) (o5 : Option Int), (-2147483648 ≤ most) → (most ≤ 2147483647) → (-2147483648 ≤ pair) → (pair ≤ 2147483647) → (x + 1 ≤ y) → (y ≤ tI t 1 10) → (swC (-1000000005) (swI ((gnF (OC t 1) (tA t 5) (tA t 6)) x.toNat) x.toNat (y - x - 1).toNat (swO (gnF (OC t 1) (tA t 5) (tA t 6)) (tI t 1 10).toNat x.toNat)) most pair) → 13 - y < (n2 : Int) → 60 * n2 + (1500 * n1 + 1000) ≤ M2 → Rn (bX8_swap (EX FU (d + 3))) M2 2 [some (.ref 0), some (.int (jI most)), some (.int (jI pair)), some (.int (jI x)), some (.int (jI y)), dv o5] [] (mk t) (PI (fun z t' => t = t' ∧ (z = if (swO (gnF (OC t 1) (tA t 5) (tA t 6)) (tI t 1 10).toNat (tI t 1 10).toNat).2 = -1 then -1000000005 else (swO (gnF (OC t 1) (tA t 5) (tA t 6)) (tI t 1 10).toNat (tI t 1 10).toNat).2))) := by
        intro n2
        induction n2 with
        | zero => intro M2 most pair y o5 i2_0 i2_1 i2_2 i2_3 i2_4 i2_5 i2_6 v2 f2; exfalso; omega
        | succ n2 ih2 =>
          intro M2 most pair y o5 i2_0 i2_1 i2_2 i2_3 i2_4 i2_5 i2_6 v2 f2
          obtain ⟨M2, rfl⟩ : ∃ m, M2 = m + 60 := ⟨M2 - 60, by omega⟩
          refine w_step rfl ?_
          refine w_iload rfl ?_
          refine w_aload rfl ?_
          refine w_getR (g_0_0 _) ?_
          refine w_getI (g_1_10 _) fe_1_10 ok (fun z3 hz3 hl3 hh3 => ?_)
          refine w_cge (by omega) (fun h4 => ?_) (fun h4 => ?_)
          · skip
            refine w_step rfl ?_
            refine w_iinc (lv' := [some (.ref 0), some (.int (jI most)), some (.int (jI pair)), some (.int (jI (x + 1))), some (.int (jI y)), dv o5]) kc_1 rfl rfl ?_
            refine w_goto ?_
            exact ih1 _ most pair (x + 1) (some y) o5  (by omega) (by omega) (by omega) (by omega) (by omega) (by omega) (by omega) (i2_6.o (by omega) (by omega)) (by omega) (by omega)
          refine w_aload rfl ?_
          refine w_getR (g_0_0 _) ?_
          refine w_iload rfl ?_
          refine w_iload rfl ?_
          refine w_callV2I (oj_1 _).choose_spec rfl (e_X4_gainOfChange isT1 ok (by omega) (by omega) (by omega) (by omega)) ?_
          rintro z5 t5 ⟨rfl, hp5_0, hp5_1, hp5_2⟩
          refine w_istore (lv' := [some (.ref 0), some (.int (jI most)), some (.int (jI pair)), some (.int (jI x)), some (.int (jI y)), some (.int (jI z5))]) rfl ?_
          refine w_iload rfl ?_
          refine w_iload rfl ?_
          refine w_cle (by omega) (fun h6 => ?_) (fun h6 => ?_)
          · skip
            refine w_step rfl ?_
            refine w_iinc (lv' := [some (.ref 0), some (.int (jI most)), some (.int (jI pair)), some (.int (jI x)), some (.int (jI (y + 1))), some (.int (jI z5))]) kc_1 rfl rfl ?_
            refine w_goto ?_
            exact ih2 _ most pair (y + 1) (some z5)  (by omega) (by omega) (by omega) (by omega) (by omega) (by omega) (by first | exact i2_6.y (by omega) hp5_2 (by omega) | exact i2_6.n (by omega) hp5_2 (by omega) | omega) (by omega) (by omega)
          refine w_iload rfl ?_
          refine w_istore (lv' := [some (.ref 0), some (.int (jI z5)), some (.int (jI pair)), some (.int (jI x)), some (.int (jI y)), some (.int (jI z5))]) rfl ?_
          refine w_push kc_100 ?_
          refine w_iload rfl ?_
          refine w_mul ?_
          refine w_iload rfl ?_
          refine w_add ?_
          refine w_istore (lv' := [some (.ref 0), some (.int (jI z5)), some (.int (jI ((100 * x) + y))), some (.int (jI x)), some (.int (jI y)), some (.int (jI z5))]) rfl ?_
          refine w_goto ?_
          refine w_step rfl ?_
          refine w_iinc (lv' := [some (.ref 0), some (.int (jI z5)), some (.int (jI ((100 * x) + y))), some (.int (jI x)), some (.int (jI (y + 1))), some (.int (jI z5))]) kc_1 rfl rfl ?_
          refine w_goto ?_
          exact ih2 _ z5 ((100 * x) + y) (y + 1) (some z5)  (by omega) (by omega) (by omega) (by omega) (by omega) (by omega) (by first | exact i2_6.y (by omega) hp5_2 (by omega) | exact i2_6.n (by omega) hp5_2 (by omega) | omega) (by omega) (by omega)
      exact key2 14 _ most pair (x + 1) o5  (by omega) (by omega) (by omega) (by omega) (by omega) (by omega) i1_7.i (by omega) (by omega)
  exact key1 13 _ 0 (-1000000005) 0 none none  (by omega) (by omega) (by omega) (by omega) (by omega) (by omega) (by omega) ⟨rfl, Or.inl ⟨rfl, rfl⟩⟩ (by omega) (by omega)
