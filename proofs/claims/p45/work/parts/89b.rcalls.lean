section
theorem ki_s {H : Nat → Int} {p acc h x z : Int} (hp : 0 ≤ p) (ha : acc = phH H p.toNat) (hr : -2147483648 ≤ acc ∧ acc ≤ 2147483647) (hh : h = H p.toNat) (hz : z = fZ (fun x y => x ||| y) acc x) (hx : (h = -1 ∧ x = 0) ∨ (¬ h = -1 ∧ x = fZ (fun x y => x <<< (y &&& 31)) 1 p)) : z = phH H (p + 1).toNat := by
  refine ph_s hp ha ?_
  rw [← hh]
  rcases hx with k | k
  · refine Or.inl ⟨k.1, ?_⟩
    rw [hz, k.2]
    show (jI acc ||| jI 0).toInt = acc
    have e : jI acc ||| jI 0 = jI acc := by
      have e0 : jI 0 = 0 := by decide
      rw [e0]
      exact Int32.or_zero
    rw [e]
    exact nrm_id hr
  · exact Or.inr ⟨k.1, by rw [hz, k.2]⟩
theorem g0_s {t : TS} {x y : Int} (h : AA t 69 x.toNat = 12 ∨ AA t 69 y.toNat = 12) : 0 = gsA t x.toNat y.toNat := by
  unfold gsA
  rw [if_neg (by omega)]
set_option maxRecDepth 100000 in
set_option maxHeartbeats 4000000 in
theorem e_X9_king {d : Nat} {t : TS} {w : Int}  (ok : OK t) (q0 : WF t 69) (q1 : NZ t 69) (q2 : tI t 68 4 = -1) (q3 : -2147483648 ≤ w) (q4 : w ≤ 2147483647) : CI (EX FU (d + 6)) 164 [.ref 68, .int (jI w)] (mk t) (fun z t' => OK t' ∧ Fr [(81, 100), (82, 100)] t t' ∧ (((w = 0) ∧ z = pcA t 69 0) ∨ ((w = 1) ∧ z = mtA t 69 0) ∨ ((w = 2) ∧ z = caA t 69 0) ∨ ((w = 3) ∧ z = phG (tA t 69 1).toNat (RPc t 69)) ∨ ((¬ (0 ≤ w ∧ w ≤ 3)) ∧ z = (-1000000001)))) := by
  refine CI_ent (d := d + 5) (Bk := bX9_king) (nL := 4) rfl rfl rfl (Nat.le_of_ble_eq_true rfl) ?_
  show Rn _ 1000000 0 [some (.ref 68), some (.int (jI w)), none, none] [] _ _
  have fr : Fr [(81, 100), (82, 100)] t t := Fr.rf _ _
  have hn0 := (ok.a (ax_69 nr_1)).1
  have hn1 := (ok.a (ax_69 nr_1)).2
  refine w_step rfl ?_
  refine w_iload rfl ?_
  have hs1 : w = 0 ∨ w = 1 ∨ w = 2 ∨ w = 3 ∨ (w < 0 ∨ 0 + 4 ≤ w) := (by omega)
  rcases hs1 with hs1 | hs1 | hs1 | hs1 | hs1
  · refine w_sw (n := 1) (tsw_at hs1 (by decide)) ?_
    refine w_step rfl ?_
    refine w_aload rfl ?_
    refine w_callV0I (oj_68 _).choose_spec rfl (e_X9_picture ok q0 (by omega) (AW_no q2)) ?_
    rintro z2 t2 ⟨ok2, fq2, hp2_0, hp2_1, hp2_2⟩
    have fr2 := fr.then fq2 (by simp)
    have wf2 := q0.fr fq2 (by simp)
    refine w_retI rfl ?_
    exact ⟨ok2, fr2, (by first | (exact Or.inl ⟨by omega, by rw [hp2_2]; exact pc_e q2⟩) | (exact Or.inr (Or.inl ⟨by omega, by rw [hp2_2]; exact mt_e q2⟩)) | (exact Or.inr (Or.inr (Or.inl ⟨by omega, by rw [hp2_2]; rfl⟩))) | (exact Or.inr (Or.inr (Or.inr (Or.inl ⟨by omega, by rw [i5_4, show p.toNat = 12 by omega]; rfl⟩)))) | (exact Or.inr (Or.inr (Or.inr (Or.inr (⟨by omega, by first | omega | (subst_vars; rfl)⟩))))))⟩
  · refine w_sw (n := 2) (tsw_at hs1 (by decide)) ?_
    refine w_step rfl ?_
    refine w_aload rfl ?_
    refine w_callV0I (oj_68 _).choose_spec rfl (e_X9_matches ok (AW_no q2)) ?_
    rintro z3 t3 ⟨rfl, hp3_0, hp3_1, hp3_2⟩
    refine w_retI rfl ?_
    exact ⟨ok, fr, (by first | (exact Or.inl ⟨by omega, by rw [hp3_2]; exact pc_e q2⟩) | (exact Or.inr (Or.inl ⟨by omega, by rw [hp3_2]; exact mt_e q2⟩)) | (exact Or.inr (Or.inr (Or.inl ⟨by omega, by rw [hp3_2]; rfl⟩))) | (exact Or.inr (Or.inr (Or.inr (Or.inl ⟨by omega, by rw [i5_4, show p.toNat = 12 by omega]; rfl⟩)))) | (exact Or.inr (Or.inr (Or.inr (Or.inr (⟨by omega, by first | omega | (subst_vars; rfl)⟩))))))⟩
  · refine w_sw (n := 3) (tsw_at hs1 (by decide)) ?_
    refine w_step rfl ?_
    refine w_aload rfl ?_
    refine w_callV0I (oj_68 _).choose_spec rfl (e_X9_manyLaid ok) ?_
    rintro z4 t4 ⟨rfl, hp4_0, hp4_1, hp4_2⟩
    refine w_retI rfl ?_
    exact ⟨ok, fr, (by first | (exact Or.inl ⟨by omega, by rw [hp4_2]; exact pc_e q2⟩) | (exact Or.inr (Or.inl ⟨by omega, by rw [hp4_2]; exact mt_e q2⟩)) | (exact Or.inr (Or.inr (Or.inl ⟨by omega, by rw [hp4_2]; rfl⟩))) | (exact Or.inr (Or.inr (Or.inr (Or.inl ⟨by omega, by rw [i5_4, show p.toNat = 12 by omega]; rfl⟩)))) | (exact Or.inr (Or.inr (Or.inr (Or.inr (⟨by omega, by first | omega | (subst_vars; rfl)⟩))))))⟩
  · refine w_sw (n := 4) (tsw_at hs1 (by decide)) ?_
    refine w_step rfl ?_
    refine w_push kc_0 ?_
    refine w_istore (lv' := [some (.ref 68), some (.int (jI w)), some (.int (jI 0)), none]) rfl ?_
    refine w_push kc_0 ?_
    refine w_istore (lv' := [some (.ref 68), some (.int (jI w)), some (.int (jI 0)), some (.int (jI 0))]) rfl ?_
    refine w_goto ?_
    have key5 : ∀ (n5 M5 : Nat) (acc : Int) (p : Int), (0 ≤ p) → (p ≤ 12) → (-2147483648 ≤ acc) → (acc ≤ 2147483647) → (acc = phH (HF (RPc t 69).1 (tA t 69 1).toNat) p.toNat) → 12 - p < (n5 : Int) → 60 * n5 + (1000) ≤ M5 → Rn (bX9_king (EX FU (d + 5))) M5 5 [some (.ref 68), some (.int (jI w)), some (.int (jI acc)), some (.int (jI p))] [] (mk t) (PI (fun z t' => OK t' ∧ Fr [(81, 100), (82, 100)] t t' ∧ (((w = 0) ∧ z = pcA t 69 0) ∨ ((w = 1) ∧ z = mtA t 69 0) ∨ ((w = 2) ∧ z = caA t 69 0) ∨ ((w = 3) ∧ z = phG (tA t 69 1).toNat (RPc t 69)) ∨ ((¬ (0 ≤ w ∧ w ≤ 3)) ∧ z = (-1000000001))))) := by
      intro n5
      induction n5 with
      | zero => intro M5 acc p i5_0 i5_1 i5_2 i5_3 i5_4 v5 f5; exfalso; omega
      | succ n5 ih5 =>
        intro M5 acc p i5_0 i5_1 i5_2 i5_3 i5_4 v5 f5
        obtain ⟨M5, rfl⟩ : ∃ m, M5 = m + 60 := ⟨M5 - 60, by omega⟩
        refine w_step rfl ?_
        refine w_iload rfl ?_
        refine w_push kc_12 ?_
        refine w_cge (by omega) (fun h5 => ?_) (fun h5 => ?_)
        · skip
          refine w_step rfl ?_
          refine w_iload rfl ?_
          refine w_retI rfl ?_
          exact ⟨ok, fr, (by first | (exact Or.inl ⟨by omega, by rw [hp99qq_2]; exact pc_e q2⟩) | (exact Or.inr (Or.inl ⟨by omega, by rw [hp99qq_2]; exact mt_e q2⟩)) | (exact Or.inr (Or.inr (Or.inl ⟨by omega, by rw [hp99qq_2]; rfl⟩))) | (exact Or.inr (Or.inr (Or.inr (Or.inl ⟨by omega, by rw [i5_4, show p.toNat = 12 by omega]; rfl⟩)))) | (exact Or.inr (Or.inr (Or.inr (Or.inr (⟨by omega, by first | omega | (subst_vars; rfl)⟩))))))⟩
        refine w_iload rfl ?_
        refine w_aload rfl ?_
        refine w_iload rfl ?_
        refine w_callV1I (oj_68 _).choose_spec rfl (e_X9_holder ok (by omega) (by omega)) ?_
        rintro z6 t6 ⟨rfl, hp6_0, hp6_1, hp6_2⟩
        have hh : z6 = HF (RPc t 69).1 (tA t 69 1).toNat p.toNat := by rw [hp6_2, rh_e ok (AW_no q2) (by omega), RPt_no q2]
        have hhb := HF_b (RPc t 69).1 (tA t 69 1).toNat p.toNat
        refine w_ige (by omega) (fun h7 => ?_) (fun h7 => ?_)
        · skip
          refine w_step rfl ?_
          refine w_push kc_1 ?_
          refine w_iload rfl ?_
          refine w_bin (fun z8 hz8 hl8 hh8 => ?_)
          refine w_goto ?_
          refine w_step rfl ?_
          refine w_bin (fun z9 hz9 hl9 hh9 => ?_)
          refine w_istore (lv' := [some (.ref 68), some (.int (jI w)), some (.int (jI z9)), some (.int (jI p))]) rfl ?_
          refine w_iinc (lv' := [some (.ref 68), some (.int (jI w)), some (.int (jI z9)), some (.int (jI (p + 1)))]) kc_1 rfl rfl ?_
          refine w_goto ?_
          exact ih5 _ z9 (p + 1)  (by omega) (by omega) (by omega) (by omega) (ki_s i5_0 i5_4 (by omega) hh hz9 (by first | exact Or.inl ⟨by omega, rfl⟩ | exact Or.inr ⟨by omega, hz8⟩ | omega)) (by omega) (by omega)
        refine w_push kc_0 ?_
        refine w_goto ?_
        refine w_step rfl ?_
        refine w_bin (fun z10 hz10 hl10 hh10 => ?_)
        refine w_istore (lv' := [some (.ref 68), some (.int (jI w)), some (.int (jI z10)), some (.int (jI p))]) rfl ?_
        refine w_iinc (lv' := [some (.ref 68), some (.int (jI w)), some (.int (jI z10)), some (.int (jI (p + 1)))]) kc_1 rfl rfl ?_
        refine w_goto ?_
        exact ih5 _ z10 (p + 1)  (by omega) (by omega) (by omega) (by omega) (ki_s i5_0 i5_4 (by omega) hh hz10 (by first | exact Or.inl ⟨by omega, rfl⟩ | exact Or.inr ⟨by omega, hz99qq⟩ | omega)) (by omega) (by omega)
    exact key5 13 _ 0 0  (by omega) (by omega) (by omega) (by omega) rfl (by omega) (by omega)
  · refine w_sw (n := 9) (tsw_df (m := 4) rfl (by omega) (by omega)) ?_
    refine w_step rfl ?_
    refine w_push kc_m1000000001 ?_
    refine w_retI rfl ?_
    exact ⟨ok, fr, (by first | (exact Or.inl ⟨by omega, by rw [hp99qq_2]; exact pc_e q2⟩) | (exact Or.inr (Or.inl ⟨by omega, by rw [hp99qq_2]; exact mt_e q2⟩)) | (exact Or.inr (Or.inr (Or.inl ⟨by omega, by rw [hp99qq_2]; rfl⟩))) | (exact Or.inr (Or.inr (Or.inr (Or.inl ⟨by omega, by rw [i5_4, show p.toNat = 12 by omega]; rfl⟩)))) | (exact Or.inr (Or.inr (Or.inr (Or.inr (⟨by omega, by first | omega | (subst_vars; rfl)⟩))))))⟩
set_option maxRecDepth 100000 in
set_option maxHeartbeats 4000000 in
theorem e_X9_at {d : Nat} {t : TS} {p : Int}  (ok : OK t) (q0 : -2147483648 ≤ p) (q1 : p ≤ 2147483647) : CI (EX FU (d + 3)) 165 [.ref 68, .int (jI p)] (mk t) (fun z t' => t = t' ∧ (((¬ (0 ≤ p ∧ p ≤ 11)) ∧ z = (-1000000001)) ∨ ((0 ≤ p ∧ p ≤ 11) ∧ (atA t 69 0 p = -1) ∧ z = (-1000000005)) ∨ ((0 ≤ p ∧ p ≤ 11) ∧ (¬ atA t 69 0 p = -1) ∧ z = atA t 69 0 p))) := by
  refine CI_ent (d := d + 2) (Bk := bX9_at) (nL := 2) rfl rfl rfl (Nat.le_of_ble_eq_true rfl) ?_
  show Rn _ 1000000 0 [some (.ref 68), some (.int (jI p))] [] _ _
  have hn0 := (ok.a (ax_69 nr_1)).1
  have hn1 := (ok.a (ax_69 nr_1)).2
  refine w_step rfl ?_
  refine w_iload rfl ?_
  refine w_callS1I rfl (c_X9_isPlace ok (by omega) (by omega)) ?_
  rintro z1 t1 ⟨rfl, hp1_0⟩
  rcases hp1_0 with ⟨rfl, hp1_0⟩ | ⟨rfl, hp1_0⟩
  · skip
    refine w_ieq (by omega) (fun _ => ?_) (fun h => absurd (by omega) h)
    refine w_step rfl ?_
    refine w_push kc_m1000000001 ?_
    refine w_goto ?_
    refine w_step rfl ?_
    refine w_retI rfl ?_
    exact ⟨rfl, (by (try rcases hw3 with hw3 | hw3 | hw3) <;> (try rcases hL with hL | hL) <;> first | (exact Or.inl ⟨by omega, by first | omega | (subst_vars; rfl)⟩) | (exact Or.inr (Or.inl ⟨by omega, by omega, by first | omega | (subst_vars; rfl)⟩)) | (exact Or.inr (Or.inr (⟨by omega, by omega, by omega⟩))))⟩
  refine w_ieq (by omega) (fun h => absurd h (by omega)) (fun _ => ?_)
  refine w_aload rfl ?_
  refine w_iload rfl ?_
  refine w_callV1I (oj_68 _).choose_spec rfl (e_X9_holder ok (by omega) (by omega)) ?_
  rintro z2 t2 ⟨rfl, hp2_0, hp2_1, hp2_2⟩
  have eh : z2 = atA t 69 0 p := hp2_2
  refine w_callS1I rfl (c_X9_told0 ok (by omega) (by omega)) ?_
  rintro z3 t3 ⟨rfl, hp3_0⟩
  have hL := hp3_0
  refine w_goto ?_
  refine w_step rfl ?_
  refine w_retI rfl ?_
  exact ⟨rfl, (by (try rcases hw3 with hw3 | hw3 | hw3) <;> (try rcases hL with hL | hL) <;> first | (exact Or.inl ⟨by omega, by first | omega | (subst_vars; rfl)⟩) | (exact Or.inr (Or.inl ⟨by omega, by omega, by first | omega | (subst_vars; rfl)⟩)) | (exact Or.inr (Or.inr (⟨by omega, by omega, by omega⟩))))⟩
set_option maxRecDepth 100000 in
set_option maxHeartbeats 4000000 in
theorem e_X9_bestFor {d : Nat} {t : TS} {p w : Int}  (ok : OK t) (q0 : WF t 69) (q1 : NZ t 69) (q2 : -2147483648 ≤ p) (q3 : p ≤ 2147483647) (q4 : -2147483648 ≤ w) (q5 : w ≤ 2147483647) : CI (EX FU (d + 6)) 170 [.ref 68, .int (jI p), .int (jI w)] (mk t) (fun z t' => OK t' ∧ Fr [(81, 100), (82, 100)] t t' ∧ (((¬ (0 ≤ p ∧ p ≤ 11 ∧ 0 ≤ w ∧ w ≤ 1)) ∧ z = (-1000000001)) ∨ ((0 ≤ p ∧ p ≤ 11 ∧ 0 ≤ w ∧ w ≤ 1) ∧ z = bfA (bfF (fun s => min (OA t 69 s p.toNat 0) (OA t 69 s p.toNat 1)) (tA t 69 1).toNat) w))) := by
  refine CI_ent (d := d + 5) (Bk := bX9_bestFor) (nL := 7) rfl rfl rfl (Nat.le_of_ble_eq_true rfl) ?_
  show Rn _ 1000000 0 [some (.ref 68), some (.int (jI p)), some (.int (jI w)), none, none, none, none] [] _ _
  have fr : Fr [(81, 100), (82, 100)] t t := Fr.rf _ _
  have hn0 := (ok.a (ax_69 nr_1)).1
  have hn1 := (ok.a (ax_69 nr_1)).2
  refine w_step rfl ?_
  refine w_iload rfl ?_
  refine w_callS1I rfl (c_X9_isPlace ok (by omega) (by omega)) ?_
  rintro z1 t1 ⟨rfl, hp1_0⟩
  rcases hp1_0 with ⟨rfl, hp1_0⟩ | ⟨rfl, hp1_0⟩
  · skip
    refine w_ieq (by omega) (fun _ => ?_) (fun h => absurd (by omega) h)
    refine w_step rfl ?_
    refine w_push kc_m1000000001 ?_
    refine w_retI rfl ?_
    exact ⟨ok, fr, (by first | (exact Or.inl ⟨by omega, by first | omega | (subst_vars; rfl)⟩) | (exact Or.inr (⟨by omega, by rw [show s.toNat = (tA t 69 1).toNat by omega] at i3_7; exact bfR_a i3_7 (by omega) (by omega)⟩)))⟩
  refine w_ieq (by omega) (fun h => absurd h (by omega)) (fun _ => ?_)
  refine w_iload rfl ?_
  refine w_push kc_0 ?_
  refine w_push kc_1 ?_
  refine w_callS3I rfl (c_X9_in ok (by omega) (by omega) (by omega) (by omega) (by omega) (by omega)) ?_
  rintro z2 t2 ⟨rfl, hp2_0⟩
  rcases hp2_0 with ⟨rfl, hp2_0⟩ | ⟨rfl, hp2_0⟩
  · skip
    refine w_ine (by omega) (fun h => absurd h (by omega)) (fun _ => ?_)
    refine w_goto ?_
    refine w_step rfl ?_
    refine w_push kc_m1000000001 ?_
    refine w_retI rfl ?_
    exact ⟨ok, fr, (by first | (exact Or.inl ⟨by omega, by first | omega | (subst_vars; rfl)⟩) | (exact Or.inr (⟨by omega, by rw [show s.toNat = (tA t 69 1).toNat by omega] at i3_7; exact bfR_a i3_7 (by omega) (by omega)⟩)))⟩
  refine w_ine (by omega) (fun _ => ?_) (fun h => absurd (by omega) h)
  refine w_step rfl ?_
  refine w_push kc_m1 ?_
  refine w_istore (lv' := [some (.ref 68), some (.int (jI p)), some (.int (jI w)), some (.int (jI (-1))), none, none, none]) rfl ?_
  refine w_push kc_0 ?_
  refine w_istore (lv' := [some (.ref 68), some (.int (jI p)), some (.int (jI w)), some (.int (jI (-1))), some (.int (jI 0)), none, none]) rfl ?_
  refine w_push kc_0 ?_
  refine w_istore (lv' := [some (.ref 68), some (.int (jI p)), some (.int (jI w)), some (.int (jI (-1))), some (.int (jI 0)), some (.int (jI 0)), none]) rfl ?_
  refine w_goto ?_
  have key3 : ∀ (n3 M3 : Nat) (best : Int) (least : Int) (s : Int) (o6 : Option Int) (t3 : TS), OK t3 → Fr [(81, 100), (82, 100)] t t3 → WF t3 69 → (-1 ≤ best) → (best ≤ 11) → (0 ≤ least) → (least ≤ 198) → (0 ≤ s) → (s ≤ 12) → (s ≤ tA t 69 1) → (bfR (fun s => min (OA t 69 s p.toNat 0) (OA t 69 s p.toNat 1)) s.toNat best least) → 12 - s < (n3 : Int) → 60 * n3 + (1000) ≤ M3 → Rn (bX9_bestFor (EX FU (d + 5))) M3 3 [some (.ref 68), some (.int (jI p)), some (.int (jI w)), some (.int (jI best)), some (.int (jI least)), some (.int (jI s)), dv o6] [] (mk t3) (PI (fun z t' => OK t' ∧ Fr [(81, 100), (82, 100)] t t' ∧ (((¬ (0 ≤ p ∧ p ≤ 11 ∧ 0 ≤ w ∧ w ≤ 1)) ∧ z = (-1000000001)) ∨ ((0 ≤ p ∧ p ≤ 11 ∧ 0 ≤ w ∧ w ≤ 1) ∧ z = bfA (bfF (fun s => min (OA t 69 s p.toNat 0) (OA t 69 s p.toNat 1)) (tA t 69 1).toNat) w)))) := by
    intro n3
    induction n3 with
    | zero => intro M3 best least s o6 t3 ok3 fr3 wf3 i3_0 i3_1 i3_2 i3_3 i3_4 i3_5 i3_6 i3_7 v3 f3; exfalso; omega
    | succ n3 ih3 =>
      intro M3 best least s o6 t3 ok3 fr3 wf3 i3_0 i3_1 i3_2 i3_3 i3_4 i3_5 i3_6 i3_7 v3 f3
      obtain ⟨M3, rfl⟩ : ∃ m, M3 = m + 60 := ⟨M3 - 60, by omega⟩
      have frc := fr3
      have en1 : tA t3 69 1 = tA t 69 1 := fr3.2.1 69 (by simp) 1
      refine w_step rfl ?_
      refine w_iload rfl ?_
      refine w_aload rfl ?_
      refine w_getR (g_68_0 _) ?_
      refine w_push kc_1 ?_
      refine w_iald (i := 1) (ai_69 _) (by omega) (by omega) (ax_69 nr_1) ok3 (fun z4 hz4 hl4 hh4 => ?_)
      refine w_cge (by omega) (fun h5 => ?_) (fun h5 => ?_)
      · skip
        refine w_step rfl ?_
        refine w_iload rfl ?_
        refine w_ige (by omega) (fun h6 => ?_) (fun h6 => ?_)
        · skip
          refine w_step rfl ?_
          refine w_iload rfl ?_
          refine w_ine (by omega) (fun h7 => ?_) (fun h7 => ?_)
          · skip
            refine w_step rfl ?_
            refine w_iload rfl ?_
            refine w_goto ?_
            refine w_step rfl ?_
            refine w_retI rfl ?_
            exact ⟨ok3, fr3, (by first | (exact Or.inl ⟨by omega, by first | omega | (subst_vars; rfl)⟩) | (exact Or.inr (⟨by omega, by rw [show s.toNat = (tA t 69 1).toNat by omega] at i3_7; exact bfR_a i3_7 (by omega) (by omega)⟩)))⟩
          refine w_iload rfl ?_
          refine w_goto ?_
          refine w_step rfl ?_
          refine w_retI rfl ?_
          exact ⟨ok3, fr3, (by first | (exact Or.inl ⟨by omega, by first | omega | (subst_vars; rfl)⟩) | (exact Or.inr (⟨by omega, by rw [show s.toNat = (tA t 69 1).toNat by omega] at i3_7; exact bfR_a i3_7 (by omega) (by omega)⟩)))⟩
        refine w_push kc_m1000000005 ?_
        refine w_goto ?_
        refine w_step rfl ?_
        refine w_retI rfl ?_
        exact ⟨ok3, fr3, (by first | (exact Or.inl ⟨by omega, by first | omega | (subst_vars; rfl)⟩) | (exact Or.inr (⟨by omega, by rw [show s.toNat = (tA t 69 1).toNat by omega] at i3_7; exact bfR_a i3_7 (by omega) (by omega)⟩)))⟩
      refine w_aload rfl ?_
      refine w_iload rfl ?_
      refine w_iload rfl ?_
      refine w_callV2I (oj_68 _).choose_spec rfl (e_X9_leastAt ok3 wf3 (by intro k hk; have e := fr3.2.1 69 (by simp); rw [e] at hk ⊢; exact q1 k hk) (by omega) (by omega) (by omega) (by omega)) ?_
      rintro z8 t8 ⟨ok8, fq8, hp8_0, hp8_1, hp8_2⟩
      have fr8 := fr3.then fq8 (by simp)
      have wf8 := wf3.fr fq8 (by simp)
      have emq : z8 = (fun s => min (OA t 69 s p.toNat 0) (OA t 69 s p.toNat 1)) s.toNat := by rw [hp8_2, OA_fr frc (by simp)]
      refine w_istore (lv' := [some (.ref 68), some (.int (jI p)), some (.int (jI w)), some (.int (jI best)), some (.int (jI least)), some (.int (jI s)), some (.int (jI z8))]) rfl ?_
      refine w_iload rfl ?_
      refine w_ilt (by omega) (fun h9 => ?_) (fun h9 => ?_)
      · skip
        refine w_step rfl ?_
        refine w_iload rfl ?_
        refine w_istore (lv' := [some (.ref 68), some (.int (jI p)), some (.int (jI w)), some (.int (jI s)), some (.int (jI least)), some (.int (jI s)), some (.int (jI z8))]) rfl ?_
        refine w_iload rfl ?_
        refine w_istore (lv' := [some (.ref 68), some (.int (jI p)), some (.int (jI w)), some (.int (jI s)), some (.int (jI z8)), some (.int (jI s)), some (.int (jI z8))]) rfl ?_
        refine w_goto ?_
        refine w_step rfl ?_
        refine w_iinc (lv' := [some (.ref 68), some (.int (jI p)), some (.int (jI w)), some (.int (jI s)), some (.int (jI z8)), some (.int (jI (s + 1))), some (.int (jI z8))]) kc_1 rfl rfl ?_
        refine w_goto ?_
        exact ih3 _ s z8 (s + 1) (some z8) t8 ok8 fr8 wf8 (by omega) (by omega) (by omega) (by omega) (by omega) (by omega) (by omega) (by first | exact i3_7.y (by omega) emq (by omega) | exact i3_7.n (by omega) emq (by omega) | omega) (by omega) (by omega)
      refine w_iload rfl ?_
      refine w_iload rfl ?_
      refine w_cge (by omega) (fun h10 => ?_) (fun h10 => ?_)
      · skip
        refine w_step rfl ?_
        refine w_iinc (lv' := [some (.ref 68), some (.int (jI p)), some (.int (jI w)), some (.int (jI best)), some (.int (jI least)), some (.int (jI (s + 1))), some (.int (jI z8))]) kc_1 rfl rfl ?_
        refine w_goto ?_
        exact ih3 _ best least (s + 1) (some z8) t8 ok8 fr8 wf8 (by omega) (by omega) (by omega) (by omega) (by omega) (by omega) (by omega) (by first | exact i3_7.y (by omega) emq (by omega) | exact i3_7.n (by omega) emq (by omega) | omega) (by omega) (by omega)
      refine w_goto ?_
      refine w_step rfl ?_
      refine w_iload rfl ?_
      refine w_istore (lv' := [some (.ref 68), some (.int (jI p)), some (.int (jI w)), some (.int (jI s)), some (.int (jI least)), some (.int (jI s)), some (.int (jI z8))]) rfl ?_
      refine w_iload rfl ?_
      refine w_istore (lv' := [some (.ref 68), some (.int (jI p)), some (.int (jI w)), some (.int (jI s)), some (.int (jI z8)), some (.int (jI s)), some (.int (jI z8))]) rfl ?_
      refine w_goto ?_
      refine w_step rfl ?_
      refine w_iinc (lv' := [some (.ref 68), some (.int (jI p)), some (.int (jI w)), some (.int (jI s)), some (.int (jI z8)), some (.int (jI (s + 1))), some (.int (jI z8))]) kc_1 rfl rfl ?_
      refine w_goto ?_
      exact ih3 _ s z8 (s + 1) (some z8) t8 ok8 fr8 wf8 (by omega) (by omega) (by omega) (by omega) (by omega) (by omega) (by omega) (by first | exact i3_7.y (by omega) emq (by omega) | exact i3_7.n (by omega) emq (by omega) | omega) (by omega) (by omega)
  exact key3 13 _ (-1) 0 0 none t ok fr q0 (by omega) (by omega) (by omega) (by omega) (by omega) (by omega) (by omega) ⟨rfl, rfl⟩ (by omega) (by omega)
set_option maxRecDepth 100000 in
set_option maxHeartbeats 4000000 in
theorem e_X9_swap {d : Nat} {t : TS}  (ok : OK t) (q0 : WF t 69) (q1 : NZ t 69) (q2 : tI t 68 4 = -1) : CI (EX FU (d + 6)) 172 [.ref 68] (mk t) (fun z t' => OK t' ∧ Fr [(69, 100), (81, 100), (82, 100)] t t' ∧ (∀ i, tA t' 69 i = tA t 69 i) ∧ (z = if (swO (gsA t) (tA t 69 1).toNat (tA t 69 1).toNat).2 = -1 then -1000000005 else (swO (gsA t) (tA t 69 1).toNat (tA t 69 1).toNat).2)) := by
  refine CI_ent (d := d + 5) (Bk := bX9_swap) (nL := 6) rfl rfl rfl (Nat.le_of_ble_eq_true rfl) ?_
  show Rn _ 1000000 0 [some (.ref 68), none, none, none, none, none] [] _ _
  have fr : Fr [(69, 100), (81, 100), (82, 100)] t t := Fr.rf _ _
  have hn0 := (ok.a (ax_69 nr_1)).1
  have hn1 := (ok.a (ax_69 nr_1)).2
  refine w_step rfl ?_
  refine w_push kc_m1 ?_
  refine w_istore (lv' := [some (.ref 68), some (.int (jI (-1))), none, none, none, none]) rfl ?_
  refine w_aload rfl ?_
  refine w_callV0I (oj_68 _).choose_spec rfl (e_X9_picture ok q0 q1 (AW_no q2)) ?_
  rintro z1 t1 ⟨ok1, fq1, hp1_0, hp1_1, hp1_2⟩
  have fr1 := fr.then fq1 (by simp)
  have wf1 := q0.fr fq1 (by simp)
  have cf : ∀ i, tA t1 69 i = tA t 69 i := fq1.2.1 69 (by simp)
  have c4 : tI t1 68 4 = -1 := (fq1.1 68 4 (by simp)).trans q2
  have ep : z1 = pcA t 69 0 := by rw [hp1_2]; exact pc_e q2
  have hpz : 0 ≤ pcA t 69 0 := by omega
  refine w_istore (lv' := [some (.ref 68), some (.int (jI (-1))), some (.int (jI z1)), none, none, none]) rfl ?_
  refine w_push kc_0 ?_
  refine w_istore (lv' := [some (.ref 68), some (.int (jI (-1))), some (.int (jI z1)), some (.int (jI 0)), none, none]) rfl ?_
  refine w_goto ?_
  have key1 : ∀ (n1 M1 : Nat) (best : Int) (least : Int) (x : Int) (o4 : Option Int) (o5 : Option Int) (t2 : TS), OK t2 → Fr [(69, 100), (81, 100), (82, 100)] t t2 → WF t2 69 → (-1 ≤ best) → (best ≤ 2000) → (0 ≤ least) → (least ≤ 2376) → (0 ≤ x) → (x ≤ 12) → (x ≤ tA t 69 1) → (swC (-1) (swO (gsA t) (tA t 69 1).toNat x.toNat) (pcA t 69 0 - least) best) → (∀ i, tA t2 69 i = tA t 69 i) → (tI t2 68 4 = -1) → 12 - x < (n1 : Int) → 1500 * n1 + (1000) ≤ M1 → Rn (bX9_swap (EX FU (d + 5))) M1 1 [some (.ref 68), some (.int (jI best)), some (.int (jI least)), some (.int (jI x)), dv o4, dv o5] [] (mk t2) (PI (fun z t' => OK t' ∧ Fr [(69, 100), (81, 100), (82, 100)] t t' ∧ (∀ i, tA t' 69 i = tA t 69 i) ∧ (z = if (swO (gsA t) (tA t 69 1).toNat (tA t 69 1).toNat).2 = -1 then -1000000005 else (swO (gsA t) (tA t 69 1).toNat (tA t 69 1).toNat).2))) := by
    intro n1
    induction n1 with
    | zero => intro M1 best least x o4 o5 t2 ok2 fr2 wf2 i1_0 i1_1 i1_2 i1_3 i1_4 i1_5 i1_6 i1_7 i1_8 i1_9 v1 f1; exfalso; omega
    | succ n1 ih1 =>
      intro M1 best least x o4 o5 t2 ok2 fr2 wf2 i1_0 i1_1 i1_2 i1_3 i1_4 i1_5 i1_6 i1_7 i1_8 i1_9 v1 f1
      obtain ⟨M1, rfl⟩ : ∃ m, M1 = m + 1500 := ⟨M1 - 1500, by omega⟩
      have cf := i1_8
      have c4 := i1_9
      have en1 := i1_8 1
      refine w_step rfl ?_
      refine w_iload rfl ?_
      refine w_aload rfl ?_
      refine w_getR (g_68_0 _) ?_
      refine w_push kc_1 ?_
      refine w_iald (i := 1) (ai_69 _) (by omega) (by omega) (ax_69 nr_1) ok2 (fun z3 hz3 hl3 hh3 => ?_)
      refine w_cge (by omega) (fun h4 => ?_) (fun h4 => ?_)
      · skip
        refine w_step rfl ?_
        refine w_iload rfl ?_
        refine w_callS1I rfl (c_X9_told0 ok2 (by omega) (by omega)) ?_
        rintro z5 t5 ⟨rfl, hp5_0⟩
        refine w_retI rfl ?_
        exact ⟨ok2, fr2, cf, (by rw [show x.toNat = (tA t 69 1).toNat by omega] at i1_7; exact swC_a i1_7 (Or.inr rfl) (by omega))⟩
      refine w_iload rfl ?_
      refine w_push kc_1 ?_
      refine w_add ?_
      refine w_istore (lv' := [some (.ref 68), some (.int (jI best)), some (.int (jI least)), some (.int (jI x)), some (.int (jI (x + 1))), dv o5]) rfl ?_
      refine w_goto ?_
      have key2 : ∀ (n2 M2 : Nat) (best : Int) (least : Int) (y : Int) (o5 : Option Int) (t6 : TS), OK t6 → Fr [(69, 100), (81, 100), (82, 100)] t t6 → WF t6 69 → (-1 ≤ best) → (best ≤ 2000) → (0 ≤ least) → (least ≤ 2376) → (x + 1 ≤ y) → (y ≤ tA t 69 1) → (swC (-1) (swI ((gsA t) x.toNat) x.toNat (y - x - 1).toNat (swO (gsA t) (tA t 69 1).toNat x.toNat)) (pcA t 69 0 - least) best) → (∀ i, tA t6 69 i = tA t 69 i) → (tI t6 68 4 = -1) → 13 - y < (n2 : Int) → 60 * n2 + (1500 * n1 + 1000) ≤ M2 → Rn (bX9_swap (EX FU (d + 5))) M2 2 [some (.ref 68), some (.int (jI best)), some (.int (jI least)), some (.int (jI x)), some (.int (jI y)), dv o5] [] (mk t6) (PI (fun z t' => OK t' ∧ Fr [(69, 100), (81, 100), (82, 100)] t t' ∧ (∀ i, tA t' 69 i = tA t 69 i) ∧ (z = if (swO (gsA t) (tA t 69 1).toNat (tA t 69 1).toNat).2 = -1 then -1000000005 else (swO (gsA t) (tA t 69 1).toNat (tA t 69 1).toNat).2))) := by
        intro n2
        induction n2 with
        | zero => intro M2 best least y o5 t6 ok6 fr6 wf6 i2_0 i2_1 i2_2 i2_3 i2_4 i2_5 i2_6 i2_7 i2_8 v2 f2; exfalso; omega
        | succ n2 ih2 =>
          intro M2 best least y o5 t6 ok6 fr6 wf6 i2_0 i2_1 i2_2 i2_3 i2_4 i2_5 i2_6 i2_7 i2_8 v2 f2
          obtain ⟨M2, rfl⟩ : ∃ m, M2 = m + 60 := ⟨M2 - 60, by omega⟩
          have cf := i2_7
          have c4 := i2_8
          have en1 := i2_7 1
          refine w_step rfl ?_
          refine w_iload rfl ?_
          refine w_aload rfl ?_
          refine w_getR (g_68_0 _) ?_
          refine w_push kc_1 ?_
          refine w_iald (i := 1) (ai_69 _) (by omega) (by omega) (ax_69 nr_1) ok6 (fun z7 hz7 hl7 hh7 => ?_)
          refine w_cge (by omega) (fun h8 => ?_) (fun h8 => ?_)
          · skip
            refine w_step rfl ?_
            refine w_iinc (lv' := [some (.ref 68), some (.int (jI best)), some (.int (jI least)), some (.int (jI (x + 1))), some (.int (jI y)), dv o5]) kc_1 rfl rfl ?_
            refine w_goto ?_
            exact ih1 _ best least (x + 1) (some y) o5 t6 ok6 fr6 wf6 (by omega) (by omega) (by omega) (by omega) (by omega) (by omega) (by omega) (i2_6.o (by omega) (by omega)) cf c4 (by omega) (by omega)
          refine w_aload rfl ?_
          refine w_iload rfl ?_
          refine w_push kc_3 ?_
          refine w_callV2I (oj_68 _).choose_spec rfl (c_X9_of ok6 (by omega) (by omega) (by omega) (by omega)) ?_
          rintro z9 t9 ⟨rfl, hp9_0, hp9_1, hp9_2⟩
          have hr9 := of_r3 (s := x) ok6 (by omega)
          have ex : z9 = AA t 69 x.toNat := by
            rw [hp9_0, cf]
            unfold AA
            congr 1
            omega
          refine w_push kc_12 ?_
          refine w_ceq (by omega) (fun h10 => ?_) (fun h10 => ?_)
          · skip
            refine w_step rfl ?_
            refine w_iinc (lv' := [some (.ref 68), some (.int (jI best)), some (.int (jI least)), some (.int (jI x)), some (.int (jI (y + 1))), dv o5]) kc_1 rfl rfl ?_
            refine w_goto ?_
            exact ih2 _ best least (y + 1) o5 t6 ok6 fr6 wf6 (by omega) (by omega) (by omega) (by omega) (by omega) (by omega) (by first | exact i2_6.y (by omega) hg (by omega) | exact i2_6.n (by omega) hg (by omega) | exact i2_6.n (by omega) (g0_s (by omega)) (by have h9 := (swI_0 (G := gsA t x.toNat) (a := x.toNat) (swO_0 (gsA t) (tA t 69 1).toNat x.toNat) (y - x - 1).toNat).1; have h8 := i2_6.1; omega) | (exfalso; omega)) cf c4 (by omega) (by omega)
          refine w_aload rfl ?_
          refine w_iload rfl ?_
          refine w_push kc_3 ?_
          refine w_callV2I (oj_68 _).choose_spec rfl (c_X9_of ok6 (by omega) (by omega) (by omega) (by omega)) ?_
          rintro z11 t11 ⟨rfl, hp11_0, hp11_1, hp11_2⟩
          have hr11 := of_r3 (s := y) ok6 (by omega)
          have ey : z11 = AA t 69 y.toNat := by
            rw [hp11_0, cf]
            unfold AA
            congr 1
            omega
          refine w_push kc_12 ?_
          refine w_ceq (by omega) (fun h12 => ?_) (fun h12 => ?_)
          · skip
            refine w_step rfl ?_
            refine w_iinc (lv' := [some (.ref 68), some (.int (jI best)), some (.int (jI least)), some (.int (jI x)), some (.int (jI (y + 1))), dv o5]) kc_1 rfl rfl ?_
            refine w_goto ?_
            exact ih2 _ best least (y + 1) o5 t6 ok6 fr6 wf6 (by omega) (by omega) (by omega) (by omega) (by omega) (by omega) (by first | exact i2_6.y (by omega) hg (by omega) | exact i2_6.n (by omega) hg (by omega) | exact i2_6.n (by omega) (g0_s (by omega)) (by have h9 := (swI_0 (G := gsA t x.toNat) (a := x.toNat) (swO_0 (gsA t) (tA t 69 1).toNat x.toNat) (y - x - 1).toNat).1; have h8 := i2_6.1; omega) | (exfalso; omega)) cf c4 (by omega) (by omega)
          refine w_aload rfl ?_
          refine w_iload rfl ?_
          refine w_iload rfl ?_
          refine w_callV2V (oj_68 _).choose_spec rfl (e_X9_change ok6 (by omega) (by omega) (by omega) (by omega)) ?_
          rintro t13 ⟨ok13, fq13, hp13_0, hp13_1, hp13_2, hp13_3⟩
          have fr13 := fr6.then fq13 (by simp)
          have wf13 := wf6.dq hp13_0
          have h1 := hp13_3
          have c4 : tI t13 68 4 = -1 := (fq13.1 68 4 (by simp)).trans c4
          have cz : ∀ i, (i = 4 ∨ 89 ≤ i) → tA t13 69 i = tA t 69 i := fun i hi => (hp13_0 i (by omega) (by omega) (by omega)).trans (cf i)
          refine w_aload rfl ?_
          refine w_callV0I (oj_68 _).choose_spec rfl (e_X9_picture ok13 wf13 (by intro k hk; rw [cz 4 (by omega)] at hk; rw [cz _ (by omega)]; exact q1 k hk) (AW_no c4)) ?_
          rintro z14 t14 ⟨ok14, fq14, hp14_0, hp14_1, hp14_2⟩
          have fr14 := fr13.then fq14 (by simp)
          have wf14 := wf13.fr fq14 (by simp)
          have hg : pcA t 69 0 - z14 = gsA t x.toNat y.toNat := by
            unfold gsA
            rw [if_pos ⟨by omega, by omega⟩, hp14_2]
            exact congrArg (fun q => pcA t 69 0 - q) (ch_rp q2 cf (c4.trans q2.symm) h1 (by omega))
          have hm := fq14.2.1 69 (by simp)
          have c4 : tI t14 68 4 = -1 := (fq14.1 68 4 (by simp)).trans c4
          refine w_istore (lv' := [some (.ref 68), some (.int (jI best)), some (.int (jI least)), some (.int (jI x)), some (.int (jI y)), some (.int (jI z14))]) rfl ?_
          refine w_aload rfl ?_
          refine w_iload rfl ?_
          refine w_iload rfl ?_
          refine w_callV2V (oj_68 _).choose_spec rfl (e_X9_change ok14 (by omega) (by omega) (by omega) (by omega)) ?_
          rintro t15 ⟨ok15, fq15, hp15_0, hp15_1, hp15_2, hp15_3⟩
          have fr15 := fr14.then fq15 (by simp)
          have wf15 := wf14.dq hp15_0
          have cf : ∀ i, tA t15 69 i = tA t 69 i := fun i => (ch_bk h1 _ hm hp15_3 i).trans (cf i)
          have c4 : tI t15 68 4 = -1 := (fq15.1 68 4 (by simp)).trans c4
          refine w_iload rfl ?_
          refine w_iload rfl ?_
          refine w_cge (by omega) (fun h16 => ?_) (fun h16 => ?_)
          · skip
            refine w_step rfl ?_
            refine w_iload rfl ?_
            refine w_goto ?_
            refine w_step rfl ?_
            refine w_istore (lv' := [some (.ref 68), some (.int (jI best)), some (.int (jI least)), some (.int (jI x)), some (.int (jI y)), some (.int (jI z14))]) rfl ?_
            refine w_iload rfl ?_
            refine w_iload rfl ?_
            refine w_cge (by omega) (fun h17 => ?_) (fun h17 => ?_)
            · skip
              refine w_step rfl ?_
              refine w_iload rfl ?_
              refine w_goto ?_
              refine w_step rfl ?_
              refine w_istore (lv' := [some (.ref 68), some (.int (jI best)), some (.int (jI least)), some (.int (jI x)), some (.int (jI y)), some (.int (jI z14))]) rfl ?_
              refine w_goto ?_
              refine w_step rfl ?_
              refine w_iinc (lv' := [some (.ref 68), some (.int (jI best)), some (.int (jI least)), some (.int (jI x)), some (.int (jI (y + 1))), some (.int (jI z14))]) kc_1 rfl rfl ?_
              refine w_goto ?_
              exact ih2 _ best least (y + 1) (some z14) t15 ok15 fr15 wf15 (by omega) (by omega) (by omega) (by omega) (by omega) (by omega) (by first | exact i2_6.y (by omega) hg (by omega) | exact i2_6.n (by omega) hg (by omega) | exact i2_6.n (by omega) (g0_s (by omega)) (by have h9 := (swI_0 (G := gsA t x.toNat) (a := x.toNat) (swO_0 (gsA t) (tA t 69 1).toNat x.toNat) (y - x - 1).toNat).1; have h8 := i2_6.1; omega) | (exfalso; omega)) cf c4 (by omega) (by omega)
            refine w_iload rfl ?_
            refine w_goto ?_
            refine w_step rfl ?_
            refine w_istore (lv' := [some (.ref 68), some (.int (jI best)), some (.int (jI z14)), some (.int (jI x)), some (.int (jI y)), some (.int (jI z14))]) rfl ?_
            refine w_goto ?_
            refine w_step rfl ?_
            refine w_iinc (lv' := [some (.ref 68), some (.int (jI best)), some (.int (jI z14)), some (.int (jI x)), some (.int (jI (y + 1))), some (.int (jI z14))]) kc_1 rfl rfl ?_
            refine w_goto ?_
            exact ih2 _ best z14 (y + 1) (some z14) t15 ok15 fr15 wf15 (by omega) (by omega) (by omega) (by omega) (by omega) (by omega) (by first | exact i2_6.y (by omega) hg (by omega) | exact i2_6.n (by omega) hg (by omega) | exact i2_6.n (by omega) (g0_s (by omega)) (by have h9 := (swI_0 (G := gsA t x.toNat) (a := x.toNat) (swO_0 (gsA t) (tA t 69 1).toNat x.toNat) (y - x - 1).toNat).1; have h8 := i2_6.1; omega) | (exfalso; omega)) cf c4 (by omega) (by omega)
          refine w_push kc_100 ?_
          refine w_iload rfl ?_
          refine w_mul ?_
          refine w_iload rfl ?_
          refine w_add ?_
          refine w_goto ?_
          refine w_step rfl ?_
          refine w_istore (lv' := [some (.ref 68), some (.int (jI ((100 * x) + y))), some (.int (jI least)), some (.int (jI x)), some (.int (jI y)), some (.int (jI z14))]) rfl ?_
          refine w_iload rfl ?_
          refine w_iload rfl ?_
          refine w_cge (by omega) (fun h18 => ?_) (fun h18 => ?_)
          · skip
            refine w_step rfl ?_
            refine w_iload rfl ?_
            refine w_goto ?_
            refine w_step rfl ?_
            refine w_istore (lv' := [some (.ref 68), some (.int (jI ((100 * x) + y))), some (.int (jI least)), some (.int (jI x)), some (.int (jI y)), some (.int (jI z14))]) rfl ?_
            refine w_goto ?_
            refine w_step rfl ?_
            refine w_iinc (lv' := [some (.ref 68), some (.int (jI ((100 * x) + y))), some (.int (jI least)), some (.int (jI x)), some (.int (jI (y + 1))), some (.int (jI z14))]) kc_1 rfl rfl ?_
            refine w_goto ?_
            exact ih2 _ ((100 * x) + y) least (y + 1) (some z14) t15 ok15 fr15 wf15 (by omega) (by omega) (by omega) (by omega) (by omega) (by omega) (by first | exact i2_6.y (by omega) hg (by omega) | exact i2_6.n (by omega) hg (by omega) | exact i2_6.n (by omega) (g0_s (by omega)) (by have h9 := (swI_0 (G := gsA t x.toNat) (a := x.toNat) (swO_0 (gsA t) (tA t 69 1).toNat x.toNat) (y - x - 1).toNat).1; have h8 := i2_6.1; omega) | (exfalso; omega)) cf c4 (by omega) (by omega)
          refine w_iload rfl ?_
          refine w_goto ?_
          refine w_step rfl ?_
          refine w_istore (lv' := [some (.ref 68), some (.int (jI ((100 * x) + y))), some (.int (jI z14)), some (.int (jI x)), some (.int (jI y)), some (.int (jI z14))]) rfl ?_
          refine w_goto ?_
          refine w_step rfl ?_
          refine w_iinc (lv' := [some (.ref 68), some (.int (jI ((100 * x) + y))), some (.int (jI z14)), some (.int (jI x)), some (.int (jI (y + 1))), some (.int (jI z14))]) kc_1 rfl rfl ?_
          refine w_goto ?_
          exact ih2 _ ((100 * x) + y) z14 (y + 1) (some z14) t15 ok15 fr15 wf15 (by omega) (by omega) (by omega) (by omega) (by omega) (by omega) (by first | exact i2_6.y (by omega) hg (by omega) | exact i2_6.n (by omega) hg (by omega) | exact i2_6.n (by omega) (g0_s (by omega)) (by have h9 := (swI_0 (G := gsA t x.toNat) (a := x.toNat) (swO_0 (gsA t) (tA t 69 1).toNat x.toNat) (y - x - 1).toNat).1; have h8 := i2_6.1; omega) | (exfalso; omega)) cf c4 (by omega) (by omega)
      exact key2 14 _ best least (x + 1) o5 t2 ok2 fr2 wf2 (by omega) (by omega) (by omega) (by omega) (by omega) (by omega) i1_7.i (fun i => by first | exact cf i | rfl) (by first | exact c4 | exact q2) (by omega) (by omega)
  exact key1 13 _ (-1) z1 0 none none t1 ok1 fr1 wf1 (by omega) (by omega) (by omega) (by omega) (by omega) (by omega) (by omega) ⟨by show _ = (0 : Int); omega, Or.inl ⟨rfl, rfl⟩⟩ (fun i => by first | exact cf i | rfl) (by first | exact c4 | exact q2) (by omega) (by omega)
set_option maxRecDepth 100000 in
set_option maxHeartbeats 4000000 in
theorem e_X9_knocked {d : Nat} {t : TS} {p : Int}  (ok : OK t) (q0 : tI t 68 4 = -1) (q1 : -2147483648 ≤ p) (q2 : p ≤ 2147483647) : CI (EX FU (d + 4)) 174 [.ref 68, .int (jI p)] (mk t) (fun z t' => t = t' ∧ (((¬ (0 ≤ p ∧ p ≤ 11)) ∧ z = (-1000000001)) ∨ ((0 ≤ p ∧ p ≤ 11) ∧ z = flF (hvA t 69) (HF (RPc t 69).1 (tA t 69 1).toNat) p.toNat))) := by
  refine CI_ent (d := d + 3) (Bk := bX9_knocked) (nL := 2) rfl rfl rfl (Nat.le_of_ble_eq_true rfl) ?_
  show Rn _ 1000000 0 [some (.ref 68), some (.int (jI p))] [] _ _
  have hn0 := (ok.a (ax_69 nr_1)).1
  have hn1 := (ok.a (ax_69 nr_1)).2
  refine w_step rfl ?_
  refine w_iload rfl ?_
  refine w_callS1I rfl (c_X9_isPlace ok (by omega) (by omega)) ?_
  rintro z1 t1 ⟨rfl, hp1_0⟩
  rcases hp1_0 with ⟨rfl, hp1_0⟩ | ⟨rfl, hp1_0⟩
  · skip
    refine w_ieq (by omega) (fun _ => ?_) (fun h => absurd (by omega) h)
    refine w_step rfl ?_
    refine w_push kc_m1000000001 ?_
    refine w_goto ?_
    refine w_step rfl ?_
    refine w_retI rfl ?_
    exact ⟨rfl, (by first | (exact Or.inl ⟨by omega, by first | omega | (subst_vars; rfl)⟩) | (exact Or.inr (⟨by omega, by omega⟩)))⟩
  refine w_ieq (by omega) (fun h => absurd h (by omega)) (fun _ => ?_)
  refine w_aload rfl ?_
  refine w_iload rfl ?_
  refine w_callV1I (oj_68 _).choose_spec rfl (e_X9_falls ok (AW_no q0) (by omega) (by omega)) ?_
  rintro z2 t2 ⟨rfl, hp2_0, hp2_1, hp2_2⟩
  have ef : z2 = flF (hvA t 69) (HF (RPc t 69).1 (tA t 69 1).toNat) p.toNat := by rw [hp2_2, RPt_no q0]
  refine w_goto ?_
  refine w_step rfl ?_
  refine w_retI rfl ?_
  exact ⟨rfl, (by first | (exact Or.inl ⟨by omega, by first | omega | (subst_vars; rfl)⟩) | (exact Or.inr (⟨by omega, by omega⟩)))⟩
set_option maxRecDepth 100000 in
set_option maxHeartbeats 4000000 in
theorem e_X9_push {d : Nat} {t : TS} {w : Int}  (ok : OK t) (q0 : tI t 68 4 = -1) (q1 : -2147483648 ≤ w) (q2 : w ≤ 2147483647) : CI (EX FU (d + 4)) 175 [.ref 68, .int (jI w)] (mk t) (fun z t' => t = t' ∧ (((¬ (0 ≤ w ∧ w ≤ 1)) ∧ z = (-1000000001)) ∨ ((w = 0) ∧ z = (psF (fun p => flF (hvA t 69) (HF (RPc t 69).1 (tA t 69 1).toNat) p) 11).1) ∨ ((w = 1) ∧ z = (psF (fun p => flF (hvA t 69) (HF (RPc t 69).1 (tA t 69 1).toNat) p) 11).2))) := by
  refine CI_ent (d := d + 3) (Bk := bX9_push) (nL := 6) rfl rfl rfl (Nat.le_of_ble_eq_true rfl) ?_
  show Rn _ 1000000 0 [some (.ref 68), some (.int (jI w)), none, none, none, none] [] _ _
  have hn0 := (ok.a (ax_69 nr_1)).1
  have hn1 := (ok.a (ax_69 nr_1)).2
  refine w_step rfl ?_
  refine w_iload rfl ?_
  refine w_push kc_0 ?_
  refine w_push kc_1 ?_
  refine w_callS3I rfl (c_X9_in ok (by omega) (by omega) (by omega) (by omega) (by omega) (by omega)) ?_
  rintro z1 t1 ⟨rfl, hp1_0⟩
  rcases hp1_0 with ⟨rfl, hp1_0⟩ | ⟨rfl, hp1_0⟩
  · skip
    refine w_ine (by omega) (fun h => absurd h (by omega)) (fun _ => ?_)
    refine w_push kc_m1000000001 ?_
    refine w_retI rfl ?_
    exact ⟨rfl, (by first | (exact Or.inl ⟨by omega, by first | omega | (subst_vars; rfl)⟩) | (exact Or.inr (Or.inl ⟨by omega, by have e := i2_6; rw [show p = 12 by omega] at e; first | exact e.1 | exact e.2⟩)) | (exact Or.inr (Or.inr (⟨by omega, by have e := i2_6; rw [show p = 12 by omega] at e; first | exact e.1 | exact e.2⟩))))⟩
  refine w_ine (by omega) (fun _ => ?_) (fun h => absurd (by omega) h)
  refine w_step rfl ?_
  refine w_push kc_0 ?_
  refine w_istore (lv' := [some (.ref 68), some (.int (jI w)), some (.int (jI 0)), none, none, none]) rfl ?_
  refine w_aload rfl ?_
  refine w_push kc_0 ?_
  refine w_callV1I (oj_68 _).choose_spec rfl (e_X9_falls ok (AW_no q0) (by omega) (by omega)) ?_
  rintro z2 t2 ⟨rfl, hp2_0, hp2_1, hp2_2⟩
  have ef0 : z2 = flF (hvA t 69) (HF (RPc t 69).1 (tA t 69 1).toNat) 0 := by rw [hp2_2, RPt_no q0]; rfl
  refine w_istore (lv' := [some (.ref 68), some (.int (jI w)), some (.int (jI 0)), some (.int (jI z2)), none, none]) rfl ?_
  refine w_push kc_1 ?_
  refine w_istore (lv' := [some (.ref 68), some (.int (jI w)), some (.int (jI 0)), some (.int (jI z2)), some (.int (jI 1)), none]) rfl ?_
  refine w_goto ?_
  have key2 : ∀ (n2 M2 : Nat) (best : Int) (most : Int) (p : Int) (o5 : Option Int), (0 ≤ best) → (best ≤ 12) → (0 ≤ most) → (most ≤ 12) → (1 ≤ p) → (p ≤ 12) → (psP (fun p => flF (hvA t 69) (HF (RPc t 69).1 (tA t 69 1).toNat) p) p best most) → 12 - p < (n2 : Int) → 60 * n2 + (1000) ≤ M2 → Rn (bX9_push (EX FU (d + 3))) M2 2 [some (.ref 68), some (.int (jI w)), some (.int (jI best)), some (.int (jI most)), some (.int (jI p)), dv o5] [] (mk t) (PI (fun z t' => t = t' ∧ (((¬ (0 ≤ w ∧ w ≤ 1)) ∧ z = (-1000000001)) ∨ ((w = 0) ∧ z = (psF (fun p => flF (hvA t 69) (HF (RPc t 69).1 (tA t 69 1).toNat) p) 11).1) ∨ ((w = 1) ∧ z = (psF (fun p => flF (hvA t 69) (HF (RPc t 69).1 (tA t 69 1).toNat) p) 11).2)))) := by
    intro n2
    induction n2 with
    | zero => intro M2 best most p o5 i2_0 i2_1 i2_2 i2_3 i2_4 i2_5 i2_6 v2 f2; exfalso; omega
    | succ n2 ih2 =>
      intro M2 best most p o5 i2_0 i2_1 i2_2 i2_3 i2_4 i2_5 i2_6 v2 f2
      obtain ⟨M2, rfl⟩ : ∃ m, M2 = m + 60 := ⟨M2 - 60, by omega⟩
      refine w_step rfl ?_
      refine w_iload rfl ?_
      refine w_push kc_12 ?_
      refine w_cge (by omega) (fun h3 => ?_) (fun h3 => ?_)
      · skip
        refine w_step rfl ?_
        refine w_iload rfl ?_
        refine w_ine (by omega) (fun h4 => ?_) (fun h4 => ?_)
        · skip
          refine w_step rfl ?_
          refine w_iload rfl ?_
          refine w_goto ?_
          refine w_step rfl ?_
          refine w_retI rfl ?_
          exact ⟨rfl, (by first | (exact Or.inl ⟨by omega, by first | omega | (subst_vars; rfl)⟩) | (exact Or.inr (Or.inl ⟨by omega, by have e := i2_6; rw [show p = 12 by omega] at e; first | exact e.1 | exact e.2⟩)) | (exact Or.inr (Or.inr (⟨by omega, by have e := i2_6; rw [show p = 12 by omega] at e; first | exact e.1 | exact e.2⟩))))⟩
        refine w_iload rfl ?_
        refine w_goto ?_
        refine w_step rfl ?_
        refine w_retI rfl ?_
        exact ⟨rfl, (by first | (exact Or.inl ⟨by omega, by first | omega | (subst_vars; rfl)⟩) | (exact Or.inr (Or.inl ⟨by omega, by have e := i2_6; rw [show p = 12 by omega] at e; first | exact e.1 | exact e.2⟩)) | (exact Or.inr (Or.inr (⟨by omega, by have e := i2_6; rw [show p = 12 by omega] at e; first | exact e.1 | exact e.2⟩))))⟩
      refine w_aload rfl ?_
      refine w_iload rfl ?_
      refine w_callV1I (oj_68 _).choose_spec rfl (e_X9_falls ok (AW_no q0) (by omega) (by omega)) ?_
      rintro z5 t5 ⟨rfl, hp5_0, hp5_1, hp5_2⟩
      have ef : z5 = (fun p => flF (hvA t 69) (HF (RPc t 69).1 (tA t 69 1).toNat) p) p.toNat := by rw [hp5_2, RPt_no q0]
      refine w_istore (lv' := [some (.ref 68), some (.int (jI w)), some (.int (jI best)), some (.int (jI most)), some (.int (jI p)), some (.int (jI z5))]) rfl ?_
      refine w_iload rfl ?_
      refine w_iload rfl ?_
      refine w_cle (by omega) (fun h6 => ?_) (fun h6 => ?_)
      · skip
        refine w_step rfl ?_
        refine w_iload rfl ?_
        refine w_goto ?_
        refine w_step rfl ?_
        refine w_istore (lv' := [some (.ref 68), some (.int (jI w)), some (.int (jI best)), some (.int (jI most)), some (.int (jI p)), some (.int (jI z5))]) rfl ?_
        refine w_iload rfl ?_
        refine w_iload rfl ?_
        refine w_cle (by omega) (fun h7 => ?_) (fun h7 => ?_)
        · skip
          refine w_step rfl ?_
          refine w_iload rfl ?_
          refine w_goto ?_
          refine w_step rfl ?_
          refine w_istore (lv' := [some (.ref 68), some (.int (jI w)), some (.int (jI best)), some (.int (jI most)), some (.int (jI p)), some (.int (jI z5))]) rfl ?_
          refine w_iinc (lv' := [some (.ref 68), some (.int (jI w)), some (.int (jI best)), some (.int (jI most)), some (.int (jI (p + 1))), some (.int (jI z5))]) kc_1 rfl rfl ?_
          refine w_goto ?_
          exact ih2 _ best most (p + 1) (some z5)  (by omega) (by omega) (by omega) (by omega) (by omega) (by omega) (by first | exact i2_6.y (by omega) ef (by omega) | exact i2_6.n (by omega) ef (by omega) | (exfalso; omega)) (by omega) (by omega)
        refine w_iload rfl ?_
        refine w_goto ?_
        refine w_step rfl ?_
        refine w_istore (lv' := [some (.ref 68), some (.int (jI w)), some (.int (jI best)), some (.int (jI z5)), some (.int (jI p)), some (.int (jI z5))]) rfl ?_
        refine w_iinc (lv' := [some (.ref 68), some (.int (jI w)), some (.int (jI best)), some (.int (jI z5)), some (.int (jI (p + 1))), some (.int (jI z5))]) kc_1 rfl rfl ?_
        refine w_goto ?_
        exact ih2 _ best z5 (p + 1) (some z5)  (by omega) (by omega) (by omega) (by omega) (by omega) (by omega) (by first | exact i2_6.y (by omega) ef (by omega) | exact i2_6.n (by omega) ef (by omega) | (exfalso; omega)) (by omega) (by omega)
      refine w_iload rfl ?_
      refine w_goto ?_
      refine w_step rfl ?_
      refine w_istore (lv' := [some (.ref 68), some (.int (jI w)), some (.int (jI p)), some (.int (jI most)), some (.int (jI p)), some (.int (jI z5))]) rfl ?_
      refine w_iload rfl ?_
      refine w_iload rfl ?_
      refine w_cle (by omega) (fun h8 => ?_) (fun h8 => ?_)
      · skip
        refine w_step rfl ?_
        refine w_iload rfl ?_
        refine w_goto ?_
        refine w_step rfl ?_
        refine w_istore (lv' := [some (.ref 68), some (.int (jI w)), some (.int (jI p)), some (.int (jI most)), some (.int (jI p)), some (.int (jI z5))]) rfl ?_
        refine w_iinc (lv' := [some (.ref 68), some (.int (jI w)), some (.int (jI p)), some (.int (jI most)), some (.int (jI (p + 1))), some (.int (jI z5))]) kc_1 rfl rfl ?_
        refine w_goto ?_
        exact ih2 _ p most (p + 1) (some z5)  (by omega) (by omega) (by omega) (by omega) (by omega) (by omega) (by first | exact i2_6.y (by omega) ef (by omega) | exact i2_6.n (by omega) ef (by omega) | (exfalso; omega)) (by omega) (by omega)
      refine w_iload rfl ?_
      refine w_goto ?_
      refine w_step rfl ?_
      refine w_istore (lv' := [some (.ref 68), some (.int (jI w)), some (.int (jI p)), some (.int (jI z5)), some (.int (jI p)), some (.int (jI z5))]) rfl ?_
      refine w_iinc (lv' := [some (.ref 68), some (.int (jI w)), some (.int (jI p)), some (.int (jI z5)), some (.int (jI (p + 1))), some (.int (jI z5))]) kc_1 rfl rfl ?_
      refine w_goto ?_
      exact ih2 _ p z5 (p + 1) (some z5)  (by omega) (by omega) (by omega) (by omega) (by omega) (by omega) (by first | exact i2_6.y (by omega) ef (by omega) | exact i2_6.n (by omega) ef (by omega) | (exfalso; omega)) (by omega) (by omega)
  exact key2 13 _ 0 z2 1 none  (by omega) (by omega) (by omega) (by omega) (by omega) (by omega) ⟨rfl, ef0⟩ (by omega) (by omega)
end
section
theorem gk_pc {t u : TS} {k : Nat} (h : GXp t u k) : pcA u 69 0 = pcA t 69 k := by
  rw [← gx_pc h]
  exact (pc_e h.2.1).symm
theorem gk_mt {t u : TS} {k : Nat} (h : GXp t u k) : mtA u 69 0 = mtA t 69 k := by
  rw [← gx_mt h]
  exact (mt_e h.2.1).symm
theorem gk_ca {t u : TS} {k : Nat} (h : GXp t u k) : caA u 69 0 = caA t 69 k := by
  rw [← gx_ca h]
  rfl
set_option maxRecDepth 100000 in
set_option maxHeartbeats 4000000 in
theorem e_X9_behind {d : Nat} {t : TS} {n w : Int}  (ok : OK t) (q0 : WF t 69) (q1 : NZ t 69) (q2 : tI t 68 4 = -1) (q3 : -2147483648 ≤ n) (q4 : n ≤ 2147483647) (q5 : -2147483648 ≤ w) (q6 : w ≤ 2147483647) : CI (EX FU (d + 8)) 178 [.ref 68, .int (jI n), .int (jI w)] (mk t) (fun z t' => OK t' ∧ Fr [(69, 100), (74, 100), (68, 4), (81, 100), (82, 100)] t t' ∧ (∀ i, tA t' 69 i = tA t 69 i) ∧ (tI t' 68 4 = -1) ∧ (((¬ (0 ≤ n ∧ n ≤ 100 ∧ 0 ≤ w ∧ w ≤ 14)) ∧ z = (-1000000001)) ∨ ((0 ≤ n ∧ n ≤ 100) ∧ (w = 0) ∧ z = pcA t 69 n.toNat) ∨ ((0 ≤ n ∧ n ≤ 100) ∧ (w = 1) ∧ z = mtA t 69 n.toNat) ∨ ((0 ≤ n ∧ n ≤ 100) ∧ (w = 2) ∧ z = caA t 69 n.toNat) ∨ ((0 ≤ n ∧ n ≤ 100) ∧ (3 ≤ w ∧ w ≤ 14) ∧ (atA t 69 n.toNat (w - 3) = -1) ∧ z = (-1000000005)) ∨ ((0 ≤ n ∧ n ≤ 100) ∧ (3 ≤ w ∧ w ≤ 14) ∧ (¬ atA t 69 n.toNat (w - 3) = -1) ∧ z = atA t 69 n.toNat (w - 3)))) := by
  refine CI_ent (d := d + 7) (Bk := bX9_behind) (nL := 4) rfl rfl rfl (Nat.le_of_ble_eq_true rfl) ?_
  show Rn _ 1000000 0 [some (.ref 68), some (.int (jI n)), some (.int (jI w)), none] [] _ _
  have fr : Fr [(69, 100), (74, 100), (68, 4), (81, 100), (82, 100)] t t := Fr.rf _ _
  have hn0 := (ok.a (ax_69 nr_1)).1
  have hn1 := (ok.a (ax_69 nr_1)).2
  refine w_step rfl ?_
  refine w_iload rfl ?_
  refine w_push kc_0 ?_
  refine w_push kc_100 ?_
  refine w_callS3I rfl (c_X9_in ok (by omega) (by omega) (by omega) (by omega) (by omega) (by omega)) ?_
  rintro z1 t1 ⟨rfl, hp1_0⟩
  rcases hp1_0 with ⟨rfl, hp1_0⟩ | ⟨rfl, hp1_0⟩
  · skip
    refine w_ieq (by omega) (fun _ => ?_) (fun h => absurd (by omega) h)
    refine w_step rfl ?_
    refine w_push kc_m1000000001 ?_
    refine w_retI rfl ?_
    exact ⟨ok, fr, (by (try rcases hw3 with hw3 | hw3 | hw3) <;> (try rcases hL with hL | hL) <;> first | exact pf | exact fun i => rfl), (by (try rcases hw3 with hw3 | hw3 | hw3) <;> (try rcases hL with hL | hL) <;> first | exact pa | exact q2), (by (try rcases hw3 with hw3 | hw3 | hw3) <;> (try rcases hL with hL | hL) <;> first | (exact Or.inl ⟨by omega, by first | omega | (subst_vars; rfl)⟩) | (exact Or.inr (Or.inl ⟨by omega, by omega, by rcases ki with ki | ki | ki | ki | ki <;> first | (exfalso; omega) | (rw [ki.2]; exact gk_pc gx)⟩)) | (exact Or.inr (Or.inr (Or.inl ⟨by omega, by omega, by rcases ki with ki | ki | ki | ki | ki <;> first | (exfalso; omega) | (rw [ki.2]; exact gk_mt gx)⟩))) | (exact Or.inr (Or.inr (Or.inr (Or.inl ⟨by omega, by omega, by rcases ki with ki | ki | ki | ki | ki <;> first | (exfalso; omega) | (rw [ki.2]; exact gk_ca gx)⟩)))) | (exact Or.inr (Or.inr (Or.inr (Or.inr (Or.inl ⟨by omega, by omega, by omega, by omega⟩))))) | (exact Or.inr (Or.inr (Or.inr (Or.inr (Or.inr (⟨by omega, by omega, by omega, by omega⟩)))))))⟩
  refine w_ieq (by omega) (fun h => absurd h (by omega)) (fun _ => ?_)
  refine w_iload rfl ?_
  refine w_push kc_0 ?_
  refine w_push kc_14 ?_
  refine w_callS3I rfl (c_X9_in ok (by omega) (by omega) (by omega) (by omega) (by omega) (by omega)) ?_
  rintro z2 t2 ⟨rfl, hp2_0⟩
  rcases hp2_0 with ⟨rfl, hp2_0⟩ | ⟨rfl, hp2_0⟩
  · skip
    refine w_ine (by omega) (fun h => absurd h (by omega)) (fun _ => ?_)
    refine w_goto ?_
    refine w_step rfl ?_
    refine w_push kc_m1000000001 ?_
    refine w_retI rfl ?_
    exact ⟨ok, fr, (by (try rcases hw3 with hw3 | hw3 | hw3) <;> (try rcases hL with hL | hL) <;> first | exact pf | exact fun i => rfl), (by (try rcases hw3 with hw3 | hw3 | hw3) <;> (try rcases hL with hL | hL) <;> first | exact pa | exact q2), (by (try rcases hw3 with hw3 | hw3 | hw3) <;> (try rcases hL with hL | hL) <;> first | (exact Or.inl ⟨by omega, by first | omega | (subst_vars; rfl)⟩) | (exact Or.inr (Or.inl ⟨by omega, by omega, by rcases ki with ki | ki | ki | ki | ki <;> first | (exfalso; omega) | (rw [ki.2]; exact gk_pc gx)⟩)) | (exact Or.inr (Or.inr (Or.inl ⟨by omega, by omega, by rcases ki with ki | ki | ki | ki | ki <;> first | (exfalso; omega) | (rw [ki.2]; exact gk_mt gx)⟩))) | (exact Or.inr (Or.inr (Or.inr (Or.inl ⟨by omega, by omega, by rcases ki with ki | ki | ki | ki | ki <;> first | (exfalso; omega) | (rw [ki.2]; exact gk_ca gx)⟩)))) | (exact Or.inr (Or.inr (Or.inr (Or.inr (Or.inl ⟨by omega, by omega, by omega, by omega⟩))))) | (exact Or.inr (Or.inr (Or.inr (Or.inr (Or.inr (⟨by omega, by omega, by omega, by omega⟩)))))))⟩
  refine w_ine (by omega) (fun _ => ?_) (fun h => absurd (by omega) h)
  refine w_step rfl ?_
  refine w_aload rfl ?_
  refine w_callV0V (oj_68 _).choose_spec rfl (c_X9_thinks ok) ?_
  rintro t3 ⟨ok3, fq3, hp3_0⟩
  have fr3 := fr.then fq3 (by simp)
  have wf3 := q0.fr fq3 (by simp)
  have p1 : ∀ i, 89 ≤ i → tA t3 69 i = tA t 69 i := fun i _ => fq3.2.1 69 (by simp) i
  have p2 : ∀ i, i < 89 → tA t3 74 i = tA t 69 i := hp3_0
  have pz : ∀ i, tA t3 69 i = tA t 69 i := fq3.2.1 69 (by simp)
  have p4 : tI t3 68 4 = tI t 68 4 := fq3.1 68 4 (by simp)
  have gx : GXp t t3 0 := gx_0 q2 pz p4
  refine w_aload rfl ?_
  refine w_iload rfl ?_
  refine w_callV1V (oj_68 _).choose_spec rfl (e_X9_goesOn ok3 wf3 (by intro k hk; rw [pz] at hk ⊢; exact q1 k hk) (AW_no gx.2.1) (by omega) (by omega) (by omega)) ?_
  rintro t4 ⟨ok4, fq4, hp4_0, hp4_1, hp4_2, hp4_3⟩
  have fr4 := fr3.then fq4 (by simp)
  have wf4 := wf3.dq hp4_0
  have p2 : ∀ i, i < 89 → tA t4 74 i = tA t 69 i := fun i hi => (fq4.2.1 74 (by simp) i).trans (p2 i hi)
  have p1 : ∀ i, 89 ≤ i → tA t4 69 i = tA t 69 i := fun i hi => (hp4_0 i (by omega) (by omega) (by omega)).trans (p1 i hi)
  have pn4 : tA t4 69 4 = tA t 69 4 := (hp4_0 4 (by decide) (by decide) (by decide)).trans (pz 4)
  have gx := gx_d gx hp4_3 hp4_0 hp4_1
  refine w_iload rfl ?_
  refine w_push kc_2 ?_
  refine w_cle (by omega) (fun h5 => ?_) (fun h5 => ?_)
  · skip
    refine w_step rfl ?_
    refine w_aload rfl ?_
    refine w_iload rfl ?_
    refine w_callV1I (oj_68 _).choose_spec rfl (e_X9_king ok4 wf4 (by intro k hk; rw [p1 _ (by omega)]; rw [pn4] at hk; exact q1 k hk) gx.2.1 (by omega) (by omega)) ?_
    rintro z6 t6 ⟨ok6, fq6, hp6_0⟩
    have fr6 := fr4.then fq6 (by simp)
    have wf6 := wf4.fr fq6 (by simp)
    have p2 : ∀ i, i < 89 → tA t6 74 i = tA t 69 i := fun i hi => (fq6.2.1 74 (by simp) i).trans (p2 i hi)
    have p1 : ∀ i, 89 ≤ i → tA t6 69 i = tA t 69 i := fun i hi => (fq6.2.1 69 (by simp) i).trans (p1 i hi)
    have ki := hp6_0
    have hw3 : w = 0 ∨ w = 1 ∨ w = 2 := by omega
    refine w_goto ?_
    refine w_step rfl ?_
    refine w_istore (lv' := [some (.ref 68), some (.int (jI n)), some (.int (jI w)), some (.int (jI z6))]) rfl ?_
    refine w_aload rfl ?_
    refine w_callV0V (oj_68 _).choose_spec rfl (e_X9_putsBack ok6) ?_
    rintro t7 ⟨ok7, fq7, hp7_0, hp7_1, hp7_2⟩
    have fr7 := fr6.then fq7 (by simp)
    have pf : ∀ i, tA t7 69 i = tA t 69 i := fun i => (Nat.lt_or_ge i 89).elim (fun h => (hp7_0 i h).trans (p2 i h)) (fun h => (hp7_1 i h).trans (p1 i h))
    have pa := hp7_2
    refine w_iload rfl ?_
    refine w_retI rfl ?_
    exact ⟨ok7, fr7, (by (try rcases hw3 with hw3 | hw3 | hw3) <;> (try rcases hL with hL | hL) <;> first | exact pf | exact fun i => rfl), (by (try rcases hw3 with hw3 | hw3 | hw3) <;> (try rcases hL with hL | hL) <;> first | exact pa | exact q2), (by (try rcases hw3 with hw3 | hw3 | hw3) <;> (try rcases hL with hL | hL) <;> first | (exact Or.inl ⟨by omega, by first | omega | (subst_vars; rfl)⟩) | (exact Or.inr (Or.inl ⟨by omega, by omega, by rcases ki with ki | ki | ki | ki | ki <;> first | (exfalso; omega) | (rw [ki.2]; exact gk_pc gx)⟩)) | (exact Or.inr (Or.inr (Or.inl ⟨by omega, by omega, by rcases ki with ki | ki | ki | ki | ki <;> first | (exfalso; omega) | (rw [ki.2]; exact gk_mt gx)⟩))) | (exact Or.inr (Or.inr (Or.inr (Or.inl ⟨by omega, by omega, by rcases ki with ki | ki | ki | ki | ki <;> first | (exfalso; omega) | (rw [ki.2]; exact gk_ca gx)⟩)))) | (exact Or.inr (Or.inr (Or.inr (Or.inr (Or.inl ⟨by omega, by omega, by omega, by omega⟩))))) | (exact Or.inr (Or.inr (Or.inr (Or.inr (Or.inr (⟨by omega, by omega, by omega, by omega⟩)))))))⟩
  refine w_aload rfl ?_
  refine w_iload rfl ?_
  refine w_push kc_3 ?_
  refine w_sub ?_
  refine w_callV1I (oj_68 _).choose_spec rfl (e_X9_holder ok4 (by omega) (by omega)) ?_
  rintro z8 t8 ⟨rfl, hp8_0, hp8_1, hp8_2⟩
  have eh : z8 = atA t 69 n.toNat (w - 3) := by rw [hp8_2]; exact gx_at gx
  refine w_callS1I rfl (c_X9_told0 ok4 (by omega) (by omega)) ?_
  rintro z9 t9 ⟨rfl, hp9_0⟩
  have hL := hp9_0
  refine w_goto ?_
  refine w_step rfl ?_
  refine w_istore (lv' := [some (.ref 68), some (.int (jI n)), some (.int (jI w)), some (.int (jI z9))]) rfl ?_
  refine w_aload rfl ?_
  refine w_callV0V (oj_68 _).choose_spec rfl (e_X9_putsBack ok4) ?_
  rintro t10 ⟨ok10, fq10, hp10_0, hp10_1, hp10_2⟩
  have fr10 := fr4.then fq10 (by simp)
  have pf : ∀ i, tA t10 69 i = tA t 69 i := fun i => (Nat.lt_or_ge i 89).elim (fun h => (hp10_0 i h).trans (p2 i h)) (fun h => (hp10_1 i h).trans (p1 i h))
  have pa := hp10_2
  refine w_iload rfl ?_
  refine w_retI rfl ?_
  exact ⟨ok10, fr10, (by (try rcases hw3 with hw3 | hw3 | hw3) <;> (try rcases hL with hL | hL) <;> first | exact pf | exact fun i => rfl), (by (try rcases hw3 with hw3 | hw3 | hw3) <;> (try rcases hL with hL | hL) <;> first | exact pa | exact q2), (by (try rcases hw3 with hw3 | hw3 | hw3) <;> (try rcases hL with hL | hL) <;> first | (exact Or.inl ⟨by omega, by first | omega | (subst_vars; rfl)⟩) | (exact Or.inr (Or.inl ⟨by omega, by omega, by rcases ki with ki | ki | ki | ki | ki <;> first | (exfalso; omega) | (rw [ki.2]; exact gk_pc gx)⟩)) | (exact Or.inr (Or.inr (Or.inl ⟨by omega, by omega, by rcases ki with ki | ki | ki | ki | ki <;> first | (exfalso; omega) | (rw [ki.2]; exact gk_mt gx)⟩))) | (exact Or.inr (Or.inr (Or.inr (Or.inl ⟨by omega, by omega, by rcases ki with ki | ki | ki | ki | ki <;> first | (exfalso; omega) | (rw [ki.2]; exact gk_ca gx)⟩)))) | (exact Or.inr (Or.inr (Or.inr (Or.inr (Or.inl ⟨by omega, by omega, by omega, by omega⟩))))) | (exact Or.inr (Or.inr (Or.inr (Or.inr (Or.inr (⟨by omega, by omega, by omega, by omega⟩)))))))⟩
set_option maxRecDepth 100000 in
set_option maxHeartbeats 4000000 in
theorem e_X9_laid {d : Nat} {t : TS}  (ok : OK t) (q0 : WF t 69) (q1 : NZ t 69) (q2 : tI t 68 4 = -1) : CI (EX FU (d + 7)) 180 [.ref 68] (mk t) (fun z t' => OK t' ∧ Fr [(69, 100), (74, 100), (68, 4), (81, 100), (82, 100)] t t' ∧ (∀ i, tA t' 69 i = tA t 69 i) ∧ (tI t' 68 4 = -1) ∧ (FsP (fun m => (caA t 69 m = 12 ∨ caA t 69 m = tA t 69 1)) 201 z)) := by
  refine CI_ent (d := d + 6) (Bk := bX9_laid) (nL := 2) rfl rfl rfl (Nat.le_of_ble_eq_true rfl) ?_
  show Rn _ 1000000 0 [some (.ref 68), none] [] _ _
  have fr : Fr [(69, 100), (74, 100), (68, 4), (81, 100), (82, 100)] t t := Fr.rf _ _
  have hn0 := (ok.a (ax_69 nr_1)).1
  have hn1 := (ok.a (ax_69 nr_1)).2
  refine w_step rfl ?_
  refine w_aload rfl ?_
  refine w_callV0V (oj_68 _).choose_spec rfl (c_X9_thinks ok) ?_
  rintro t1 ⟨ok1, fq1, hp1_0⟩
  have fr1 := fr.then fq1 (by simp)
  have wf1 := q0.fr fq1 (by simp)
  have p1 : ∀ i, 89 ≤ i → tA t1 69 i = tA t 69 i := fun i _ => fq1.2.1 69 (by simp) i
  have p2 : ∀ i, i < 89 → tA t1 74 i = tA t 69 i := hp1_0
  have pz : ∀ i, tA t1 69 i = tA t 69 i := fq1.2.1 69 (by simp)
  have p4 : tI t1 68 4 = tI t 68 4 := fq1.1 68 4 (by simp)
  have gx : GXp t t1 0 := gx_0 q2 pz p4
  refine w_push kc_0 ?_
  refine w_istore (lv' := [some (.ref 68), some (.int (jI 0))]) rfl ?_
  refine w_goto ?_
  have key1 : ∀ (n1 M1 : Nat) (n : Int) (t2 : TS), OK t2 → Fr [(69, 100), (74, 100), (68, 4), (81, 100), (82, 100)] t t2 → WF t2 69 → (0 ≤ n) → (n ≤ 201) → (∀ i, 89 ≤ i → tA t2 69 i = tA t 69 i) → (∀ i, i < 89 → tA t2 74 i = tA t 69 i) → (GXp t t2 n.toNat) → (∀ k : Int, 0 ≤ k → k < n → ¬ (caA t 69 k.toNat = 12 ∨ caA t 69 k.toNat = tA t 69 1)) → (tA t2 69 4 = tA t 69 4) → 201 - n < (n1 : Int) → 60 * n1 + (1000) ≤ M1 → Rn (bX9_laid (EX FU (d + 6))) M1 1 [some (.ref 68), some (.int (jI n))] [] (mk t2) (PI (fun z t' => OK t' ∧ Fr [(69, 100), (74, 100), (68, 4), (81, 100), (82, 100)] t t' ∧ (∀ i, tA t' 69 i = tA t 69 i) ∧ (tI t' 68 4 = -1) ∧ (FsP (fun m => (caA t 69 m = 12 ∨ caA t 69 m = tA t 69 1)) 201 z))) := by
    intro n1
    induction n1 with
    | zero => intro M1 n t2 ok2 fr2 wf2 i1_0 i1_1 i1_2 i1_3 i1_4 i1_5 i1_6 v1 f1; exfalso; omega
    | succ n1 ih1 =>
      intro M1 n t2 ok2 fr2 wf2 i1_0 i1_1 i1_2 i1_3 i1_4 i1_5 i1_6 v1 f1
      obtain ⟨M1, rfl⟩ : ∃ m, M1 = m + 60 := ⟨M1 - 60, by omega⟩
      have p1 := i1_2
      have p2 := i1_3
      have gx := i1_4
      refine w_step rfl ?_
      refine w_iload rfl ?_
      refine w_push kc_200 ?_
      refine w_cgt (by omega) (fun h3 => ?_) (fun h3 => ?_)
      · skip
        refine w_step rfl ?_
        refine w_aload rfl ?_
        refine w_callV0V (oj_68 _).choose_spec rfl (e_X9_putsBack ok2) ?_
        rintro t4 ⟨ok4, fq4, hp4_0, hp4_1, hp4_2⟩
        have fr4 := fr2.then fq4 (by simp)
        have pf : ∀ i, tA t4 69 i = tA t 69 i := fun i => (Nat.lt_or_ge i 89).elim (fun h => (hp4_0 i h).trans (p2 i h)) (fun h => (hp4_1 i h).trans (p1 i h))
        have pa := hp4_2
        refine w_iload rfl ?_
        refine w_push kc_200 ?_
        refine w_cle (by omega) (fun h5 => ?_) (fun h5 => ?_)
        · skip
          refine w_step rfl ?_
          refine w_iload rfl ?_
          refine w_goto ?_
          refine w_step rfl ?_
          refine w_retI rfl ?_
          exact ⟨ok4, fr4, (by first | exact pf | exact fun i => rfl), (by first | exact pa | exact q2), (by first | exact Or.inl ⟨rfl, fun k h1 h2 => i1_5 k h1 (by omega)⟩ | exact Or.inr ⟨by omega, by omega, by first | (show _ ∨ _; omega), i1_5⟩)⟩
        refine w_push kc_m1000000005 ?_
        refine w_goto ?_
        refine w_step rfl ?_
        refine w_retI rfl ?_
        exact ⟨ok4, fr4, (by first | exact pf | exact fun i => rfl), (by first | exact pa | exact q2), (by first | exact Or.inl ⟨rfl, fun k h1 h2 => i1_5 k h1 (by omega)⟩ | exact Or.inr ⟨by omega, by omega, by first | (show _ ∨ _; omega), i1_5⟩)⟩
      refine w_aload rfl ?_
      refine w_callV0I (oj_68 _).choose_spec rfl (e_X9_isLaid ok2) ?_
      rintro z6 t6 ⟨rfl, hp6_0, hp6_1, hp6_2⟩
      have hl := hp6_2
      rw [gx_ca gx, gx.2.2.2.1] at hl
      refine w_ine (by omega) (fun h7 => ?_) (fun h7 => ?_)
      · skip
        refine w_step rfl ?_
        refine w_aload rfl ?_
        refine w_callV0V (oj_68 _).choose_spec rfl (e_X9_putsBack ok2) ?_
        rintro t8 ⟨ok8, fq8, hp8_0, hp8_1, hp8_2⟩
        have fr8 := fr2.then fq8 (by simp)
        have pf : ∀ i, tA t8 69 i = tA t 69 i := fun i => (Nat.lt_or_ge i 89).elim (fun h => (hp8_0 i h).trans (p2 i h)) (fun h => (hp8_1 i h).trans (p1 i h))
        have pa := hp8_2
        refine w_iload rfl ?_
        refine w_push kc_200 ?_
        refine w_cle (by omega) (fun h9 => ?_) (fun h9 => ?_)
        · skip
          refine w_step rfl ?_
          refine w_iload rfl ?_
          refine w_goto ?_
          refine w_step rfl ?_
          refine w_retI rfl ?_
          exact ⟨ok8, fr8, (by first | exact pf | exact fun i => rfl), (by first | exact pa | exact q2), (by first | exact Or.inl ⟨rfl, fun k h1 h2 => i1_5 k h1 (by omega)⟩ | exact Or.inr ⟨by omega, by omega, by first | (show _ ∨ _; omega), i1_5⟩)⟩
        refine w_push kc_m1000000005 ?_
        refine w_goto ?_
        refine w_step rfl ?_
        refine w_retI rfl ?_
        exact ⟨ok8, fr8, (by first | exact pf | exact fun i => rfl), (by first | exact pa | exact q2), (by first | exact Or.inl ⟨rfl, fun k h1 h2 => i1_5 k h1 (by omega)⟩ | exact Or.inr ⟨by omega, by omega, by first | (show _ ∨ _; omega), i1_5⟩)⟩
      refine w_aload rfl ?_
      refine w_callV0V (oj_68 _).choose_spec rfl (e_X9_day ok2 wf2 (by intro k hk; rw [i1_2 _ (by omega)]; rw [i1_6] at hk; exact q1 k hk) (AW_no gx.2.1)) ?_
      rintro t10 ⟨ok10, fq10, hp10_0, hp10_1, hp10_2, hp10_3⟩
      have fr10 := fr2.then fq10 (by simp)
      have wf10 := wf2.dq hp10_0
      have p2 : ∀ i, i < 89 → tA t10 74 i = tA t 69 i := fun i hi => (fq10.2.1 74 (by simp) i).trans (p2 i hi)
      have p1 : ∀ i, 89 ≤ i → tA t10 69 i = tA t 69 i := fun i hi => (hp10_0 i (by omega) (by omega) (by omega)).trans (p1 i hi)
      have gx := gx_s gx hp10_3 hp10_0 hp10_1
      have pn4 : tA t10 69 4 = tA t 69 4 := (hp10_0 4 (by decide) (by decide) (by decide)).trans i1_6
      refine w_iinc (lv' := [some (.ref 68), some (.int (jI (n + 1)))]) kc_1 rfl rfl ?_
      refine w_goto ?_
      exact ih1 _ (n + 1) t10 ok10 fr10 wf10 (by omega) (by omega) p1 p2 (by rw [show (n + 1).toNat = n.toNat + 1 by omega]; exact gx) (fun k h1 h2 => (Int.lt_or_eq_of_le (show k ≤ n by omega)).elim (i1_5 k h1) (fun e => by rw [e]; omega)) pn4 (by omega) (by omega)
  exact key1 202 _ 0 t1 ok1 fr1 wf1 (by omega) (by omega) p1 p2 gx (fun k h1 h2 => by omega) (pz 4) (by omega) (by omega)
set_option maxRecDepth 100000 in
set_option maxHeartbeats 4000000 in
theorem e_X9_lost {d : Nat} {t : TS} {n w : Int}  (ok : OK t) (q0 : WF t 69) (q1 : NZ t 69) (q2 : tI t 68 4 = -1) (q3 : -2147483648 ≤ n) (q4 : n ≤ 2147483647) (q5 : -2147483648 ≤ w) (q6 : w ≤ 2147483647) : CI (EX FU (d + 8)) 181 [.ref 68, .int (jI n), .int (jI w)] (mk t) (fun z t' => OK t' ∧ Fr [(69, 100), (74, 100), (68, 4), (81, 100), (82, 100)] t t' ∧ (∀ i, tA t' 69 i = tA t 69 i) ∧ (tI t' 68 4 = -1) ∧ (((¬ (0 ≤ n ∧ n ≤ 60 ∧ 0 ≤ w ∧ w ≤ 1)) ∧ z = (-1000000001)) ∨ ((0 ≤ n ∧ n ≤ 60 ∧ 0 ≤ w ∧ w ≤ 1) ∧ z = bfA (bfF (fun s => picG (tA t 69 1).toNat (OA t 69) (dysF (tA t 69 1).toNat (OA t 69) (tA t 69 3) (tA t 69 0) n.toNat (upF (RPc t 69).1 s 13, (RPc t 69).2))) (tA t 69 1).toNat) w))) := by
  refine CI_ent (d := d + 7) (Bk := bX9_lost) (nL := 7) rfl rfl rfl (Nat.le_of_ble_eq_true rfl) ?_
  show Rn _ 1000000 0 [some (.ref 68), some (.int (jI n)), some (.int (jI w)), none, none, none, none] [] _ _
  have fr : Fr [(69, 100), (74, 100), (68, 4), (81, 100), (82, 100)] t t := Fr.rf _ _
  have hn0 := (ok.a (ax_69 nr_1)).1
  have hn1 := (ok.a (ax_69 nr_1)).2
  refine w_step rfl ?_
  refine w_iload rfl ?_
  refine w_push kc_0 ?_
  refine w_push kc_60 ?_
  refine w_callS3I rfl (c_X9_in ok (by omega) (by omega) (by omega) (by omega) (by omega) (by omega)) ?_
  rintro z1 t1 ⟨rfl, hp1_0⟩
  rcases hp1_0 with ⟨rfl, hp1_0⟩ | ⟨rfl, hp1_0⟩
  · skip
    refine w_ieq (by omega) (fun _ => ?_) (fun h => absurd (by omega) h)
    refine w_step rfl ?_
    refine w_push kc_m1000000001 ?_
    refine w_retI rfl ?_
    exact ⟨ok, fr, (by first | exact pf | exact fun i => rfl), (by first | exact pa | exact q2), (by first | (exact Or.inl ⟨by omega, by first | omega | (subst_vars; rfl)⟩) | (exact Or.inr (⟨by omega, by rw [show s.toNat = (tA t 69 1).toNat by omega] at i3_10; exact bfR_a i3_10 (by omega) (by omega)⟩)))⟩
  refine w_ieq (by omega) (fun h => absurd h (by omega)) (fun _ => ?_)
  refine w_iload rfl ?_
  refine w_push kc_0 ?_
  refine w_push kc_1 ?_
  refine w_callS3I rfl (c_X9_in ok (by omega) (by omega) (by omega) (by omega) (by omega) (by omega)) ?_
  rintro z2 t2 ⟨rfl, hp2_0⟩
  rcases hp2_0 with ⟨rfl, hp2_0⟩ | ⟨rfl, hp2_0⟩
  · skip
    refine w_ine (by omega) (fun h => absurd h (by omega)) (fun _ => ?_)
    refine w_goto ?_
    refine w_step rfl ?_
    refine w_push kc_m1000000001 ?_
    refine w_retI rfl ?_
    exact ⟨ok, fr, (by first | exact pf | exact fun i => rfl), (by first | exact pa | exact q2), (by first | (exact Or.inl ⟨by omega, by first | omega | (subst_vars; rfl)⟩) | (exact Or.inr (⟨by omega, by rw [show s.toNat = (tA t 69 1).toNat by omega] at i3_10; exact bfR_a i3_10 (by omega) (by omega)⟩)))⟩
  refine w_ine (by omega) (fun _ => ?_) (fun h => absurd (by omega) h)
  refine w_step rfl ?_
  refine w_aload rfl ?_
  refine w_callV0V (oj_68 _).choose_spec rfl (c_X9_thinks ok) ?_
  rintro t3 ⟨ok3, fq3, hp3_0⟩
  have fr3 := fr.then fq3 (by simp)
  have wf3 := q0.fr fq3 (by simp)
  have p1 : ∀ i, 89 ≤ i → tA t3 69 i = tA t 69 i := fun i _ => fq3.2.1 69 (by simp) i
  have p2 : ∀ i, i < 89 → tA t3 74 i = tA t 69 i := hp3_0
  have pz : ∀ i, tA t3 69 i = tA t 69 i := fq3.2.1 69 (by simp)
  have p4 : tI t3 68 4 = tI t 68 4 := fq3.1 68 4 (by simp)
  have gx : GXp t t3 0 := gx_0 q2 pz p4
  refine w_push kc_m1 ?_
  refine w_istore (lv' := [some (.ref 68), some (.int (jI n)), some (.int (jI w)), some (.int (jI (-1))), none, none, none]) rfl ?_
  refine w_push kc_0 ?_
  refine w_istore (lv' := [some (.ref 68), some (.int (jI n)), some (.int (jI w)), some (.int (jI (-1))), some (.int (jI 0)), none, none]) rfl ?_
  refine w_push kc_0 ?_
  refine w_istore (lv' := [some (.ref 68), some (.int (jI n)), some (.int (jI w)), some (.int (jI (-1))), some (.int (jI 0)), some (.int (jI 0)), none]) rfl ?_
  refine w_goto ?_
  have key3 : ∀ (n3 M3 : Nat) (best : Int) (least : Int) (s : Int) (o6 : Option Int) (t4 : TS), OK t4 → Fr [(69, 100), (74, 100), (68, 4), (81, 100), (82, 100)] t t4 → WF t4 69 → (-1 ≤ best) → (best ≤ 11) → (0 ≤ least) → (least ≤ 2376) → (0 ≤ s) → (s ≤ 12) → (∀ i, tA t4 69 i = tA t 69 i) → (∀ i, i < 89 → tA t4 74 i = tA t 69 i) → (tI t4 68 4 = -1) → (s ≤ tA t 69 1) → (bfR (fun s => picG (tA t 69 1).toNat (OA t 69) (dysF (tA t 69 1).toNat (OA t 69) (tA t 69 3) (tA t 69 0) n.toNat (upF (RPc t 69).1 s 13, (RPc t 69).2))) s.toNat best least) → 12 - s < (n3 : Int) → 60 * n3 + (1000) ≤ M3 → Rn (bX9_lost (EX FU (d + 7))) M3 3 [some (.ref 68), some (.int (jI n)), some (.int (jI w)), some (.int (jI best)), some (.int (jI least)), some (.int (jI s)), dv o6] [] (mk t4) (PI (fun z t' => OK t' ∧ Fr [(69, 100), (74, 100), (68, 4), (81, 100), (82, 100)] t t' ∧ (∀ i, tA t' 69 i = tA t 69 i) ∧ (tI t' 68 4 = -1) ∧ (((¬ (0 ≤ n ∧ n ≤ 60 ∧ 0 ≤ w ∧ w ≤ 1)) ∧ z = (-1000000001)) ∨ ((0 ≤ n ∧ n ≤ 60 ∧ 0 ≤ w ∧ w ≤ 1) ∧ z = bfA (bfF (fun s => picG (tA t 69 1).toNat (OA t 69) (dysF (tA t 69 1).toNat (OA t 69) (tA t 69 3) (tA t 69 0) n.toNat (upF (RPc t 69).1 s 13, (RPc t 69).2))) (tA t 69 1).toNat) w)))) := by
    intro n3
    induction n3 with
    | zero => intro M3 best least s o6 t4 ok4 fr4 wf4 i3_0 i3_1 i3_2 i3_3 i3_4 i3_5 i3_6 i3_7 i3_8 i3_9 i3_10 v3 f3; exfalso; omega
    | succ n3 ih3 =>
      intro M3 best least s o6 t4 ok4 fr4 wf4 i3_0 i3_1 i3_2 i3_3 i3_4 i3_5 i3_6 i3_7 i3_8 i3_9 i3_10 v3 f3
      obtain ⟨M3, rfl⟩ : ∃ m, M3 = m + 60 := ⟨M3 - 60, by omega⟩
      have p1 : ∀ i, 89 ≤ i → tA t4 69 i = tA t 69 i := fun i _ => i3_6 i
      have p2 := i3_7
      have pf := i3_6
      have pa := i3_8
      have en1 := i3_6 1
      refine w_step rfl ?_
      refine w_iload rfl ?_
      refine w_aload rfl ?_
      refine w_getR (g_68_0 _) ?_
      refine w_push kc_1 ?_
      refine w_iald (i := 1) (ai_69 _) (by omega) (by omega) (ax_69 nr_1) ok4 (fun z5 hz5 hl5 hh5 => ?_)
      refine w_cge (by omega) (fun h6 => ?_) (fun h6 => ?_)
      · skip
        refine w_step rfl ?_
        refine w_iload rfl ?_
        refine w_ige (by omega) (fun h7 => ?_) (fun h7 => ?_)
        · skip
          refine w_step rfl ?_
          refine w_iload rfl ?_
          refine w_ine (by omega) (fun h8 => ?_) (fun h8 => ?_)
          · skip
            refine w_step rfl ?_
            refine w_iload rfl ?_
            refine w_goto ?_
            refine w_step rfl ?_
            refine w_retI rfl ?_
            exact ⟨ok4, fr4, (by first | exact pf | exact fun i => rfl), (by first | exact pa | exact q2), (by first | (exact Or.inl ⟨by omega, by first | omega | (subst_vars; rfl)⟩) | (exact Or.inr (⟨by omega, by rw [show s.toNat = (tA t 69 1).toNat by omega] at i3_10; exact bfR_a i3_10 (by omega) (by omega)⟩)))⟩
          refine w_iload rfl ?_
          refine w_goto ?_
          refine w_step rfl ?_
          refine w_retI rfl ?_
          exact ⟨ok4, fr4, (by first | exact pf | exact fun i => rfl), (by first | exact pa | exact q2), (by first | (exact Or.inl ⟨by omega, by first | omega | (subst_vars; rfl)⟩) | (exact Or.inr (⟨by omega, by rw [show s.toNat = (tA t 69 1).toNat by omega] at i3_10; exact bfR_a i3_10 (by omega) (by omega)⟩)))⟩
        refine w_push kc_m1000000005 ?_
        refine w_goto ?_
        refine w_step rfl ?_
        refine w_retI rfl ?_
        exact ⟨ok4, fr4, (by first | exact pf | exact fun i => rfl), (by first | exact pa | exact q2), (by first | (exact Or.inl ⟨by omega, by first | omega | (subst_vars; rfl)⟩) | (exact Or.inr (⟨by omega, by rw [show s.toNat = (tA t 69 1).toNat by omega] at i3_10; exact bfR_a i3_10 (by omega) (by omega)⟩)))⟩
      refine w_aload rfl ?_
      refine w_getR (g_68_0 _) ?_
      refine w_push kc_29 ?_
      refine w_push kc_5 ?_
      refine w_iload rfl ?_
      refine w_mul ?_
      refine w_add ?_
      refine w_push kc_3 ?_
      refine w_add ?_
      refine w_push kc_12 ?_
      refine w_iast (i := (((29 + (5 * s)) + 3)).toNat) (ai_69 _) rfl (by omega) (by omega) (ax_69 (nr_S3 (s := s.toNat) (by omega))) ok4 (by omega) (fun t9 ht9 ok9 => ?_)
      have fr9 := fr4.uA ht9 (by simp)
      have wf9 := wf4.u69 ht9 (by omega)
      have p1 : ∀ i, 89 ≤ i → tA t9 69 i = tA t 69 i := fun i hi => by rw [ht9, tA_uA, if_neg (by omega)]; exact p1 i hi
      have p2 : ∀ i, i < 89 → tA t9 74 i = tA t 69 i := fun i hi => by rw [ht9, tA_uA, if_neg (by omega)]; exact p2 i hi
      have l1 : ∀ i, tA t9 69 i = if i = 32 + 5 * s.toNat then 12 else tA t 69 i := fun i => by rw [ht9, tA_uA, pf, show (29 + 5 * s + 3).toNat = 32 + 5 * s.toNat by omega]; simp
      refine w_aload rfl ?_
      refine w_iload rfl ?_
      refine w_putI (p_68_4 _) fe_68_4 ok9 (by omega) (fun t10 ht10 ok10 => ?_)
      have fr10 := fr9.uI ht10 (by simp)
      have wf10 := wf9.uI ht10
      have p1 : ∀ i, 89 ≤ i → tA t10 69 i = tA t 69 i := fun i hi => by rw [ht10, tA_uI]; exact p1 i hi
      have p2 : ∀ i, i < 89 → tA t10 74 i = tA t 69 i := fun i hi => by rw [ht10, tA_uI]; exact p2 i hi
      have l1 : ∀ i, tA t10 69 i = if i = 32 + 5 * s.toNat then 12 else tA t 69 i := fun i => by rw [ht10, tA_uI]; exact l1 i
      have l4 : tI t10 68 4 = s := by rw [ht10, tI_uI, if_pos ⟨rfl, rfl⟩]
      have lr := lo_rp q2 l1 l4 (by omega)
      refine w_aload rfl ?_
      refine w_iload rfl ?_
      refine w_callV1V (oj_68 _).choose_spec rfl (e_X9_goesOn ok10 wf10 (by intro k hk; rw [l1, if_neg (by omega)] at hk; rw [p1 _ (by omega)]; exact q1 k hk) lr.1 (by omega) (by omega) (by omega)) ?_
      rintro t11 ⟨ok11, fq11, hp11_0, hp11_1, hp11_2, hp11_3⟩
      have fr11 := fr10.then fq11 (by simp)
      have wf11 := wf10.dq hp11_0
      have p2 : ∀ i, i < 89 → tA t11 74 i = tA t 69 i := fun i hi => (fq11.2.1 74 (by simp) i).trans (p2 i hi)
      have p1 : ∀ i, 89 ≤ i → tA t11 69 i = tA t 69 i := fun i hi => (hp11_0 i (by omega) (by omega) (by omega)).trans (p1 i hi)
      have lg := hp11_3
      have ln4 : tA t11 69 4 = tA t 69 4 := (hp11_0 4 (by decide) (by decide) (by decide)).trans (by rw [l1, if_neg (by omega)])
      refine w_aload rfl ?_
      refine w_callV0I (oj_68 _).choose_spec rfl (e_X9_picture ok11 wf11 (by intro k hk; rw [ln4] at hk; rw [p1 _ (by omega)]; exact q1 k hk) lg.2.1) ?_
      rintro z12 t12 ⟨ok12, fq12, hp12_0, hp12_1, hp12_2⟩
      have fr12 := fr11.then fq12 (by simp)
      have wf12 := wf11.fr fq12 (by simp)
      have p2 : ∀ i, i < 89 → tA t12 74 i = tA t 69 i := fun i hi => (fq12.2.1 74 (by simp) i).trans (p2 i hi)
      have p1 : ∀ i, 89 ≤ i → tA t12 69 i = tA t 69 i := fun i hi => (fq12.2.1 69 (by simp) i).trans (p1 i hi)
      have emq : z12 = (fun s => picG (tA t 69 1).toNat (OA t 69) (dysF (tA t 69 1).toNat (OA t 69) (tA t 69 3) (tA t 69 0) n.toNat (upF (RPc t 69).1 s 13, (RPc t 69).2))) s.toNat := by rw [hp12_2]; exact lo_pc q2 l1 l4 (by omega) lg
      refine w_istore (lv' := [some (.ref 68), some (.int (jI n)), some (.int (jI w)), some (.int (jI best)), some (.int (jI least)), some (.int (jI s)), some (.int (jI z12))]) rfl ?_
      refine w_aload rfl ?_
      refine w_callV0V (oj_68 _).choose_spec rfl (e_X9_putsBack ok12) ?_
      rintro t13 ⟨ok13, fq13, hp13_0, hp13_1, hp13_2⟩
      have fr13 := fr12.then fq13 (by simp)
      have pf : ∀ i, tA t13 69 i = tA t 69 i := fun i => (Nat.lt_or_ge i 89).elim (fun h => (hp13_0 i h).trans (p2 i h)) (fun h => (hp13_1 i h).trans (p1 i h))
      have pa := hp13_2
      have p2 : ∀ i, i < 89 → tA t13 74 i = tA t 69 i := fun i hi => (fq13.2.1 74 (by simp) i).trans (p2 i hi)
      have wf13 : WF t13 69 := q0.same (fun i _ => pf i)
      refine w_iload rfl ?_
      refine w_ilt (by omega) (fun h14 => ?_) (fun h14 => ?_)
      · skip
        refine w_step rfl ?_
        refine w_iload rfl ?_
        refine w_istore (lv' := [some (.ref 68), some (.int (jI n)), some (.int (jI w)), some (.int (jI s)), some (.int (jI least)), some (.int (jI s)), some (.int (jI z12))]) rfl ?_
        refine w_iload rfl ?_
        refine w_istore (lv' := [some (.ref 68), some (.int (jI n)), some (.int (jI w)), some (.int (jI s)), some (.int (jI z12)), some (.int (jI s)), some (.int (jI z12))]) rfl ?_
        refine w_goto ?_
        refine w_step rfl ?_
        refine w_iinc (lv' := [some (.ref 68), some (.int (jI n)), some (.int (jI w)), some (.int (jI s)), some (.int (jI z12)), some (.int (jI (s + 1))), some (.int (jI z12))]) kc_1 rfl rfl ?_
        refine w_goto ?_
        exact ih3 _ s z12 (s + 1) (some z12) t13 ok13 fr13 wf13 (by omega) (by omega) (by omega) (by omega) (by omega) (by omega) pf p2 pa (by omega) (by first | exact i3_10.y (by omega) emq (by omega) | exact i3_10.n (by omega) emq (by omega) | omega) (by omega) (by omega)
      refine w_iload rfl ?_
      refine w_iload rfl ?_
      refine w_cge (by omega) (fun h15 => ?_) (fun h15 => ?_)
      · skip
        refine w_step rfl ?_
        refine w_iinc (lv' := [some (.ref 68), some (.int (jI n)), some (.int (jI w)), some (.int (jI best)), some (.int (jI least)), some (.int (jI (s + 1))), some (.int (jI z12))]) kc_1 rfl rfl ?_
        refine w_goto ?_
        exact ih3 _ best least (s + 1) (some z12) t13 ok13 fr13 wf13 (by omega) (by omega) (by omega) (by omega) (by omega) (by omega) pf p2 pa (by omega) (by first | exact i3_10.y (by omega) emq (by omega) | exact i3_10.n (by omega) emq (by omega) | omega) (by omega) (by omega)
      refine w_goto ?_
      refine w_step rfl ?_
      refine w_iload rfl ?_
      refine w_istore (lv' := [some (.ref 68), some (.int (jI n)), some (.int (jI w)), some (.int (jI s)), some (.int (jI least)), some (.int (jI s)), some (.int (jI z12))]) rfl ?_
      refine w_iload rfl ?_
      refine w_istore (lv' := [some (.ref 68), some (.int (jI n)), some (.int (jI w)), some (.int (jI s)), some (.int (jI z12)), some (.int (jI s)), some (.int (jI z12))]) rfl ?_
      refine w_goto ?_
      refine w_step rfl ?_
      refine w_iinc (lv' := [some (.ref 68), some (.int (jI n)), some (.int (jI w)), some (.int (jI s)), some (.int (jI z12)), some (.int (jI (s + 1))), some (.int (jI z12))]) kc_1 rfl rfl ?_
      refine w_goto ?_
      exact ih3 _ s z12 (s + 1) (some z12) t13 ok13 fr13 wf13 (by omega) (by omega) (by omega) (by omega) (by omega) (by omega) pf p2 pa (by omega) (by first | exact i3_10.y (by omega) emq (by omega) | exact i3_10.n (by omega) emq (by omega) | omega) (by omega) (by omega)
  exact key3 13 _ (-1) 0 0 none t3 ok3 fr3 wf3 (by omega) (by omega) (by omega) (by omega) (by omega) (by omega) pz p2 (p4.trans q2) (by omega) ⟨rfl, rfl⟩ (by omega) (by omega)
end
