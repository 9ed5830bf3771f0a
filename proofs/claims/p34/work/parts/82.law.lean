/-! ===== the law ===== -/
def lawP (v : Option Value) (w : ab_W) : Prop := v = some (.int 1) ∧ w.length ≤ 600000 ∧ ab_tot w ≤ 7302250
theorem INV.up {m : Nat} {t : TS} (h : INV m t) : INV (m + 1) t := by
  obtain ⟨ok, wf, wg, c1, c2, sl, g1, g2, rs, rl, rm, dl⟩ := h
  exact ⟨ok, wf, wg, c1, c2, sl, g1, g2, rs, rl, rm, by omega⟩
theorem law_47 {xs : List Int32} {i : Int} {N m : Nat} {t : TS} (v : INV m t) (hm : m ≤ 600) : Rn (bL_law xs (EX FU 100)) (N + 1) 47 [some (.ref 1000001), some (.ref 0), some (.ref 68), some (.int (jI i))] [] (mk t) lawP := by
  have h1 := mk_len t
  have h2 := mk_tot v.1
  have h3 := v.2.2.2.2.2.2.2.2.2.2.2
  refine w_step rfl ?_
  refine Rp_end (v := some (.int 1)) (w' := mk t) ?_ ⟨rfl, by omega, by omega⟩
  exact rb_push (rb_ret rfl rfl)
set_option maxRecDepth 100000 in
theorem law_loop {xs : List Int32} (hx : xs.length ≤ 3072) : ∀ (n M m : Nat) (i : Int) (t : TS), INV m t → i = 6 * (m : Int) → i ≤ xs.length → (xs.length : Int) - i < 6 * (n : Int) → 3 * n + 10 ≤ M → Rn (bL_law xs (EX FU 100)) M 1 [some (.ref 1000001), some (.ref 0), some (.ref 68), some (.int (jI i))] [] (mk t) lawP := by
  intro n
  induction n with
  | zero => intro M m i t v h1 h2 h3 h4; exfalso; omega
  | succ n ih =>
    intro M m i t v h1 h2 h3 h4
    obtain ⟨M, rfl⟩ : ∃ q, M = q + 3 := ⟨M - 3, by omega⟩
    have hm : m ≤ 600 := by omega
    refine w_step rfl ?_
    refine w_iload rfl ?_
    refine w_aload rfl ?_
    refine w_xlen (j := 1) ?_
    refine w_push kc_6 ?_
    refine w_sub ?_
    refine w_cgt (by omega) (fun _ => law_47 v hm) (fun hc => ?_)
    have hi : 0 ≤ i ∧ i + 6 ≤ xs.length := by omega
    have key : ∀ K, M ≤ K → ∀ t', INV (m + 1) t' → Rn (bL_law xs (EX FU 100)) (K + 1) 46 [some (.ref 1000001), some (.ref 0), some (.ref 68), some (.int (jI i))] [] (mk t') lawP := by
      intro K hK t' v'
      refine w_step rfl ?_
      refine w_iinc (lv' := [some (.ref 1000001), some (.ref 0), some (.ref 68), some (.int (jI (i + 6)))]) kc_6 rfl rfl ?_
      refine w_goto ?_
      exact ih K (m + 1) (i + 6) t' v' (by omega) (by omega) (by omega) (by omega)
    refine w_aload rfl ?_
    refine w_iload rfl ?_
    refine w_xs (j := 1) (by omega) hx ?_
    refine w_push kc_63 ?_
    refine w_bin (fun z hz hl hh => ?_)
    have hu := ah_and (m := 63) (by decide) hz
    have hs : z = 0 ∨ z = 1 ∨ z = 2 ∨ z = 3 ∨ z = 4 ∨ z = 5 ∨ z = 6 ∨ z = 7 ∨ z = 8 ∨ z = 9 ∨ z = 10 ∨ z = 11 ∨ z = 12 ∨ z = 13 ∨ z = 14 ∨ z = 15 ∨ z = 16 ∨ z = 17 ∨ z = 18 ∨ z = 19 ∨ z = 20 ∨ z = 21 ∨ z = 22 ∨ z = 23 ∨ z = 24 ∨ z = 25 ∨ z = 26 ∨ z = 27 ∨ z = 28 ∨ z = 29 ∨ z = 30 ∨ z = 31 ∨ z = 32 ∨ z = 33 ∨ z = 34 ∨ z = 35 ∨ z = 36 ∨ z = 37 ∨ z = 38 ∨ z = 39 ∨ z = 40 ∨ z = 41 ∨ z = 42 ∨ z = 43 ∨ 44 ≤ z := by omega
    rcases hs with hs | hs | hs | hs | hs | hs | hs | hs | hs | hs | hs | hs | hs | hs | hs | hs | hs | hs | hs | hs | hs | hs | hs | hs | hs | hs | hs | hs | hs | hs | hs | hs | hs | hs | hs | hs | hs | hs | hs | hs | hs | hs | hs | hs | hs
    · exact w_sw (n := 2) (tsw_at hs (by decide)) (lw_2 hi hx v hm (key M (Nat.le_refl _)))
    · exact w_sw (n := 3) (tsw_at hs (by decide)) (lw_3 hi hx v hm (key M (Nat.le_refl _)))
    · exact w_sw (n := 4) (tsw_at hs (by decide)) (lw_4 hi hx v hm (key M (Nat.le_refl _)))
    · exact w_sw (n := 5) (tsw_at hs (by decide)) (lw_5 hi hx v hm (key M (Nat.le_refl _)))
    · exact w_sw (n := 6) (tsw_at hs (by decide)) (lw_6 hi hx v hm (key M (Nat.le_refl _)))
    · exact w_sw (n := 7) (tsw_at hs (by decide)) (lw_7 hi hx v hm (key M (Nat.le_refl _)))
    · exact w_sw (n := 8) (tsw_at hs (by decide)) (lw_8 hi hx v hm (key M (Nat.le_refl _)))
    · exact w_sw (n := 9) (tsw_at hs (by decide)) (lw_9 hi hx v hm (key M (Nat.le_refl _)))
    · exact w_sw (n := 10) (tsw_at hs (by decide)) (lw_10 hi hx v hm (key M (Nat.le_refl _)))
    · exact w_sw (n := 11) (tsw_at hs (by decide)) (lw_11 hi hx v hm (key M (Nat.le_refl _)))
    · exact w_sw (n := 12) (tsw_at hs (by decide)) (lw_12 hi hx v hm (key M (Nat.le_refl _)))
    · exact w_sw (n := 13) (tsw_at hs (by decide)) (lw_13 hi hx v hm (key M (Nat.le_refl _)))
    · exact w_sw (n := 14) (tsw_at hs (by decide)) (lw_14 hi hx v hm (key M (Nat.le_refl _)))
    · exact w_sw (n := 15) (tsw_at hs (by decide)) (lw_15 hi hx v hm (key M (Nat.le_refl _)))
    · exact w_sw (n := 16) (tsw_at hs (by decide)) (lw_16 hi hx v hm (key M (Nat.le_refl _)))
    · exact w_sw (n := 17) (tsw_at hs (by decide)) (lw_17 hi hx v hm (key M (Nat.le_refl _)))
    · exact w_sw (n := 18) (tsw_at hs (by decide)) (lw_18 hi hx v hm (key M (Nat.le_refl _)))
    · exact w_sw (n := 19) (tsw_at hs (by decide)) (lw_19 hi hx v hm (key M (Nat.le_refl _)))
    · exact w_sw (n := 20) (tsw_at hs (by decide)) (lw_20 hi hx v hm (key M (Nat.le_refl _)))
    · exact w_sw (n := 21) (tsw_at hs (by decide)) (lw_21 hi hx v hm (key M (Nat.le_refl _)))
    · exact w_sw (n := 22) (tsw_at hs (by decide)) (lw_22 hi hx v hm (key M (Nat.le_refl _)))
    · exact w_sw (n := 23) (tsw_at hs (by decide)) (lw_23 hi hx v hm (key M (Nat.le_refl _)))
    · exact w_sw (n := 24) (tsw_at hs (by decide)) (lw_24 hi hx v hm (key M (Nat.le_refl _)))
    · exact w_sw (n := 25) (tsw_at hs (by decide)) (lw_25 hi hx v hm (key M (Nat.le_refl _)))
    · exact w_sw (n := 26) (tsw_at hs (by decide)) (lw_26 hi hx v hm (key M (Nat.le_refl _)))
    · exact w_sw (n := 27) (tsw_at hs (by decide)) (lw_27 hi hx v hm (key M (Nat.le_refl _)))
    · exact w_sw (n := 28) (tsw_at hs (by decide)) (lw_28 hi hx v hm (key M (Nat.le_refl _)))
    · exact w_sw (n := 29) (tsw_at hs (by decide)) (lw_29 hi hx v hm (key M (Nat.le_refl _)))
    · exact w_sw (n := 30) (tsw_at hs (by decide)) (lw_30 hi hx v hm (key M (Nat.le_refl _)))
    · exact w_sw (n := 31) (tsw_at hs (by decide)) (lw_31 hi hx v hm (key M (Nat.le_refl _)))
    · exact w_sw (n := 32) (tsw_at hs (by decide)) (lw_32 hi hx v hm (key M (Nat.le_refl _)))
    · exact w_sw (n := 33) (tsw_at hs (by decide)) (lw_33 hi hx v hm (key M (Nat.le_refl _)))
    · exact w_sw (n := 34) (tsw_at hs (by decide)) (lw_34 hi hx v hm (key M (Nat.le_refl _)))
    · exact w_sw (n := 35) (tsw_at hs (by decide)) (lw_35 hi hx v hm (key M (Nat.le_refl _)))
    · exact w_sw (n := 36) (tsw_at hs (by decide)) (lw_36 hi hx v hm (key M (Nat.le_refl _)))
    · exact w_sw (n := 37) (tsw_at hs (by decide)) (lw_37 hi hx v hm (key M (Nat.le_refl _)))
    · exact w_sw (n := 38) (tsw_at hs (by decide)) (lw_38 hi hx v hm (key M (Nat.le_refl _)))
    · exact w_sw (n := 39) (tsw_at hs (by decide)) (lw_39 hi hx v hm (key M (Nat.le_refl _)))
    · exact w_sw (n := 40) (tsw_at hs (by decide)) (lw_40 hi hx v hm (key M (Nat.le_refl _)))
    · exact w_sw (n := 41) (tsw_at hs (by decide)) (lw_41 hi hx v hm (key M (Nat.le_refl _)))
    · exact w_sw (n := 42) (tsw_at hs (by decide)) (lw_42 hi hx v hm (key M (Nat.le_refl _)))
    · exact w_sw (n := 43) (tsw_at hs (by decide)) (lw_43 hi hx v hm (key M (Nat.le_refl _)))
    · exact w_sw (n := 44) (tsw_at hs (by decide)) (lw_44 hi hx v hm (key M (Nat.le_refl _)))
    · exact w_sw (n := 45) (tsw_at hs (by decide)) (lw_45 hi hx v hm (key M (Nat.le_refl _)))
    · refine w_sw (n := 46) (tsw_df (m := 44) rfl (by omega) (by omega)) ?_
      exact key (M + 1) (by omega) t v.up
theorem law_all (xs : List Int32) (hx : xs.length ≤ 3072) : ab_law xs := by
  have h : Rn (bL_law xs (EX FU 100)) 1000000 1 [some (.ref 1000001), some (.ref 0), some (.ref 68), some (.int (jI 0))] [] (mk t0) lawP := law_loop hx 600 1000000 0 0 t0 INV_t0 rfl (by omega) (by omega) (by decide)
  unfold Rn at h
  rw [lock_eq] at h
  obtain ⟨v, w', h1, rfl, h2, h3⟩ := h
  refine ⟨FU, 100, 1000000 + 1, w', by decide, ?_, h2, h3⟩
  refine rn_step rfl ?_
  show Rb _ _ _ [some (.ref 1000001), none, none, none] [] [] _
  unfold Rb
  rw [law0, lock_eq]
  exact h1
