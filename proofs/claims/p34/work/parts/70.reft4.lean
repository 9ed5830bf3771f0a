def EN (t : TS) (w p : Int) : Prop := EI t w ∧ noF (tA t 79) (tI t 68 22).toNat = p
theorem EN.mv {t u : TS} {w p : Int} (e : EN t w p) (h1 : tI u 68 19 = tI t 68 19) (h2 : tI u 68 22 = tI t 68 22) (h3 : ∀ i, tA u 78 i = tA t 78 i) (h4 : ∀ i, tA u 79 i = tA t 79 i) : EN u w p := by
  refine ⟨e.1.mv h1 h2 h3 h4, ?_⟩
  rw [h2, noF_congr (fun j _ => h4 j)]
  exact e.2
theorem EN.fr {t u : TS} {w p : Int} {S : List (Nat × Nat)} (e : EN t w p) (f : Fr S t u) (h1 : (68, 19) ∉ S) (h2 : (68, 22) ∉ S) (h3 : (78, 100) ∉ S) (h4 : (79, 100) ∉ S) : EN u w p := e.mv (f.1 _ _ h1) (f.1 _ _ h2) (f.2.1 _ h3) (f.2.1 _ h4)
theorem EN.uI {t u : TS} {w p z : Int} {c f : Nat} (e : EN t w p) (h : u = uI t c f z) (h1 : ¬ (68 = c ∧ 19 = f)) (h2 : ¬ (68 = c ∧ 22 = f)) : EN u w p := e.mv (by rw [h, tI_uI, if_neg h1]) (by rw [h, tI_uI, if_neg h2]) (fun i => by rw [h, tA_uI]) (fun i => by rw [h, tA_uI])
theorem EN.uAo {t u : TS} {w p z : Int} {c i : Nat} (e : EN t w p) (h : u = uA t c i z) (h1 : ¬ 78 = c) (h2 : ¬ 79 = c) : EN u w p := e.mv (by rw [h]; rfl) (by rw [h]; rfl) (fun j => by rw [h, tA_uA, if_neg (fun q => h1 q.1)]) (fun j => by rw [h, tA_uA, if_neg (fun q => h2 q.1)])
theorem EN.st {t u : TS} {p : Int} {S : List (Nat × Nat)} (e : EN t 1 p) (f : Fr S t u) (h4 : (79, 100) ∉ S) (h : EI u 1) (hn : noF (tA t 79) (tI u 68 22).toNat = noF (tA t 79) (tI t 68 22).toNat) : EN u 1 p := by
  refine ⟨h, ?_⟩
  rw [noF_congr (fun j _ => f.2.1 79 h4 j), hn]
  exact e.2
theorem EN.psh {t u : TS} {p v : Int} (e : EN t 0 p) (hv : v = -10 ∨ v = -11) (h0 : 0 ≤ tI t 68 22) (h2 : tI u 68 22 = tI t 68 22 + 1) (h1 : tI u 68 19 = tI t 68 19) (h3 : ∀ i, tA u 78 i = tA t 78 i) (h4 : ∀ i, tA u 79 i = if i = (tI t 68 22).toNat then v else tA t 79 i) : EN u 0 (p + (if v = -11 then 1 else 0)) := by
  have hh : (tI u 68 22).toNat = (tI t 68 22).toNat + 1 := by omega
  have hc : ∀ j, j < (tI t 68 22).toNat → tA u 79 j = tA t 79 j := fun j hj => by rw [h4 j, if_neg (by omega)]
  have hv2 : tA u 79 (tI t 68 22).toNat = v := by rw [h4, if_pos rfl]
  constructor
  · unfold EI
    rw [hh, h1]
    exact EIf.congr (EIf.psh (g' := tA u 79) e.1 (by rw [hv2]; exact hv) hc) (fun j _ => (h3 j).symm) (fun j _ => rfl)
  · rw [hh]
    show noF (tA u 79) (tI t 68 22).toNat + (if tA u 79 (tI t 68 22).toNat = -11 then 1 else 0) = _
    rw [noF_congr hc, e.2, hv2]
theorem EN.bin {t u : TS} {p v : Int} (e : EN t 1 p) (hv : -9 ≤ v ∧ v ≤ -1) (h0 : 0 ≤ tI t 68 22) (h2 : tI u 68 22 = tI t 68 22 + 1) (h1 : tI u 68 19 = tI t 68 19) (h3 : ∀ i, tA u 78 i = tA t 78 i) (h4 : ∀ i, tA u 79 i = if i = (tI t 68 22).toNat then v else tA t 79 i) : EN u 0 p := by
  have hh : (tI u 68 22).toNat = (tI t 68 22).toNat + 1 := by omega
  have hc : ∀ j, j < (tI t 68 22).toNat → tA u 79 j = tA t 79 j := fun j hj => by rw [h4 j, if_neg (by omega)]
  have hv2 : tA u 79 (tI t 68 22).toNat = v := by rw [h4, if_pos rfl]
  constructor
  · unfold EI
    rw [hh, h1]
    exact EIf.congr (EIf.bin (g' := tA u 79) e.1 (by rw [hv2]; exact hv) hc) (fun j _ => (h3 j).symm) (fun j _ => rfl)
  · rw [hh]
    show noF (tA u 79) (tI t 68 22).toNat + (if tA u 79 (tI t 68 22).toNat = -11 then 1 else 0) = _
    rw [noF_congr hc, e.2, hv2, if_neg (by omega)]
    omega
theorem EN.drp {t u : TS} {w p : Int} (e : EN t w p) (h0 : 0 < tI t 68 22) (hv : tA t 79 (tI t 68 22 - 1).toNat = -11) (h2 : tI u 68 22 = tI t 68 22 - 1) (h1 : tI u 68 19 = tI t 68 19) (h3 : ∀ i, tA u 78 i = tA t 78 i) (h4 : ∀ i, tA u 79 i = tA t 79 i) : EN u w (p - 1) := by
  have hh : (tI t 68 22).toNat = (tI u 68 22).toNat + 1 := by omega
  have hi : (tI t 68 22 - 1).toNat = (tI u 68 22).toNat := by omega
  rw [hi] at hv
  have e1 : EIf (tA t 78) (tA t 79) (tI t 68 19).toNat ((tI u 68 22).toNat + 1) w := by rw [← hh]; exact e.1
  have e2 := e.2
  rw [hh] at e2
  have e3 : noF (tA t 79) ((tI u 68 22).toNat + 1) = noF (tA t 79) (tI u 68 22).toNat + (if tA t 79 (tI u 68 22).toNat = -11 then 1 else 0) := rfl
  rw [e3, if_pos hv] at e2
  constructor
  · unfold EI
    rw [h1]
    exact EIf.congr (EIf.drp e1 hv) (fun j _ => (h3 j).symm) (fun j _ => (h4 j).symm)
  · rw [noF_congr (fun j _ => h4 j)]
    omega
theorem EN.opd {t u : TS} {p v : Int} (e : EN t 0 p) (hv : 0 ≤ v) (h0 : 0 ≤ tI t 68 19) (h1 : tI u 68 19 = tI t 68 19 + 1) (h2 : tI u 68 22 = tI t 68 22) (h4 : ∀ i, tA u 79 i = tA t 79 i) (h3 : ∀ i, tA u 78 i = if i = (tI t 68 19).toNat then v else tA t 78 i) : EN u 1 p := by
  have hc : (tI u 68 19).toNat = (tI t 68 19).toNat + 1 := by omega
  constructor
  · unfold EI
    rw [hc, h2]
    exact EIf.congr (EIf.opd (f' := tA u 78) e.1 (by rw [h3, if_pos rfl]; exact hv) (fun j hj => by rw [h3 j, if_neg (by omega)])) (fun j _ => rfl) (fun j _ => (h4 j).symm)
  · rw [h2, noF_congr (fun j _ => h4 j)]
    exact e.2
theorem EN.top {t : TS} {w p : Int} (e : EN t w p) (hp : 0 < p) (h0 : 0 ≤ tI t 68 22) : 0 < tI t 68 22 := by
  rcases Int.lt_or_le 0 (tI t 68 22) with h | h
  · exact h
  · exfalso
    have e2 := e.2
    rw [show (tI t 68 22).toNat = 0 by omega] at e2
    have : noF (tA t 79) 0 = 0 := rfl
    omega
set_option maxRecDepth 100000 in
set_option maxHeartbeats 4000000 in
theorem c_X9_takesPart {d : Nat} {t : TS} {p : Int} (ok : OK t) (q0 : EN t 0 p) (q1 : tI t 68 19 + tI t 68 22 ≤ 94) (q2 : tI t 68 10 ≤ tI t 68 9) (q3 : tI t 68 20 ≤ 94) : CI (EX FU (d + 3)) 197 [.ref 68] (mk t) (fun z t' => OK t' ∧ Fr [(68, 10), (68, 11), (68, 12), (68, 13), (68, 14), (68, 19), (68, 20), (68, 22), (78, 100)] t t' ∧ (0 ≤ z) ∧ (z ≤ 1) ∧ (¬ z = 0 → EN t' 1 p) ∧ (¬ z = 0 → tI t' 68 19 + tI t' 68 22 = tI t 68 19 + tI t 68 22 + 1) ∧ (tI t' 68 20 ≤ tI t 68 20 + 1) ∧ (tI t 68 10 ≤ tI t' 68 11 ∨ z = 0) ∧ (tI t' 68 11 ≤ tI t' 68 10 ∨ z = 0) ∧ (tI t' 68 10 ≤ tI t 68 9 ∨ z = 0) ∧ (z = 0 ∨ (tI t' 68 12 = 0 → tI t' 68 11 = tI t 68 9)) ∧ (z = 0 ∨ (¬ tI t' 68 12 = 0 → tI t' 68 11 < tI t' 68 10)) ∧ (z = 0 ∨ ¬ tI t 68 12 = 0)) := by
  refine CI_ent (d := d + 2) (Bk := bX9_takesPart) (nL := 2) rfl rfl rfl (Nat.le_of_ble_eq_true rfl) ?_
  show Rn _ 1000000 0 [some (.ref 68), none] [] _ _
  have fr : Fr [(68, 10), (68, 11), (68, 12), (68, 13), (68, 14), (68, 19), (68, 20), (68, 22), (78, 100)] t t := Fr.rf _ _
  have r19 := ok.f fe_68_19
  have r22 := ok.f fe_68_22
  refine w_step rfl ?_
  refine w_aload rfl ?_
  refine w_getI (g_68_12 _) fe_68_12 ok (fun z1 hz1 hl1 hh1 => ?_)
  refine w_push kc_1 ?_
  refine w_cne (by omega) (fun h2 => ?_) (fun h2 => ?_)
  · skip
    refine w_step rfl ?_
    refine w_push kc_0 ?_
    refine w_goto ?_
    refine w_step rfl ?_
    refine w_istore (lv' := [some (.ref 68), some (.int (jI 0))]) rfl ?_
    refine w_aload rfl ?_
    refine w_getI (g_68_12 _) fe_68_12 ok (fun z3 hz3 hl3 hh3 => ?_)
    refine w_push kc_2 ?_
    refine w_ceq (by omega) (fun h4 => ?_) (fun h4 => ?_)
    · skip
      refine w_step rfl ?_
      refine w_aload rfl ?_
      refine w_getR (g_68_18 _) ?_
      refine w_aload rfl ?_
      refine w_getI (g_68_19 _) fe_68_19 ok (fun z5 hz5 hl5 hh5 => ?_)
      refine w_aload rfl ?_
      refine w_getI (g_68_12 _) fe_68_12 ok (fun z6 hz6 hl6 hh6 => ?_)
      refine w_push kc_2 ?_
      refine w_cne (by omega) (fun h7 => ?_) (fun h7 => ?_)
      · skip
        refine w_step rfl ?_
        refine w_push kc_10000 ?_
        refine w_aload rfl ?_
        refine w_aload rfl ?_
        refine w_getI (g_68_13 _) fe_68_13 ok (fun z8 hz8 hl8 hh8 => ?_)
        refine w_callV1I (oj_68 _).choose_spec rfl (c_X9_nameOf ok (by omega) (by omega)) ?_
        rintro z9 t9 ⟨rfl, hp9_0, hp9_1, hp9_2⟩
        rw [hz8] at hp9_0
        refine w_add ?_
        refine w_goto ?_
        refine w_step rfl ?_
        refine w_iast (i := (z5).toNat) (ai_78 _) rfl (by omega) (by omega) (ae_78 _) ok (by omega) (fun t10 ht10 ok10 => ?_)
        have kf10_68_9 : tI t10 68 9 = tI t 68 9 := by rw [ht10]; rfl
        have kf10_68_10 : tI t10 68 10 = tI t 68 10 := by rw [ht10]; rfl
        have kf10_68_11 : tI t10 68 11 = tI t 68 11 := by rw [ht10]; rfl
        have kf10_68_12 : tI t10 68 12 = tI t 68 12 := by rw [ht10]; rfl
        have kf10_68_13 : tI t10 68 13 = tI t 68 13 := by rw [ht10]; rfl
        have kf10_68_14 : tI t10 68 14 = tI t 68 14 := by rw [ht10]; rfl
        have kf10_68_19 : tI t10 68 19 = tI t 68 19 := by rw [ht10]; rfl
        have kf10_68_20 : tI t10 68 20 = tI t 68 20 := by rw [ht10]; rfl
        have kf10_68_22 : tI t10 68 22 = tI t 68 22 := by rw [ht10]; rfl
        have fr10 := fr.uA ht10 (by simp)
        have p1 := ht10
        refine w_aload rfl ?_
        refine w_dupR ?_
        refine w_getI (g_68_19 _) fe_68_19 ok10 (fun z11 hz11 hl11 hh11 => ?_)
        refine w_push kc_1 ?_
        refine w_add ?_
        refine w_putI (p_68_19 _) fe_68_19 ok10 (by omega) (fun t12 ht12 ok12 => ?_)
        have kf12_68_9 : tI t12 68 9 = tI t10 68 9 := by rw [ht12, tI_uI, if_neg (by decide)]
        have kf12_68_10 : tI t12 68 10 = tI t10 68 10 := by rw [ht12, tI_uI, if_neg (by decide)]
        have kf12_68_11 : tI t12 68 11 = tI t10 68 11 := by rw [ht12, tI_uI, if_neg (by decide)]
        have kf12_68_12 : tI t12 68 12 = tI t10 68 12 := by rw [ht12, tI_uI, if_neg (by decide)]
        have kf12_68_13 : tI t12 68 13 = tI t10 68 13 := by rw [ht12, tI_uI, if_neg (by decide)]
        have kf12_68_14 : tI t12 68 14 = tI t10 68 14 := by rw [ht12, tI_uI, if_neg (by decide)]
        have kf12_68_19 : tI t12 68 19 = (z11 + 1) := by rw [ht12, tI_uI, if_pos ⟨rfl, rfl⟩]
        have kf12_68_20 : tI t12 68 20 = tI t10 68 20 := by rw [ht12, tI_uI, if_neg (by decide)]
        have kf12_68_22 : tI t12 68 22 = tI t10 68 22 := by rw [ht12, tI_uI, if_neg (by decide)]
        have fr12 := fr10.uI ht12 (by simp)
        have p2 := ht12
        refine w_aload rfl ?_
        refine w_dupR ?_
        refine w_getI (g_68_20 _) fe_68_20 ok12 (fun z13 hz13 hl13 hh13 => ?_)
        refine w_push kc_1 ?_
        refine w_add ?_
        refine w_putI (p_68_20 _) fe_68_20 ok12 (by omega) (fun t14 ht14 ok14 => ?_)
        have kf14_68_9 : tI t14 68 9 = tI t12 68 9 := by rw [ht14, tI_uI, if_neg (by decide)]
        have kf14_68_10 : tI t14 68 10 = tI t12 68 10 := by rw [ht14, tI_uI, if_neg (by decide)]
        have kf14_68_11 : tI t14 68 11 = tI t12 68 11 := by rw [ht14, tI_uI, if_neg (by decide)]
        have kf14_68_12 : tI t14 68 12 = tI t12 68 12 := by rw [ht14, tI_uI, if_neg (by decide)]
        have kf14_68_13 : tI t14 68 13 = tI t12 68 13 := by rw [ht14, tI_uI, if_neg (by decide)]
        have kf14_68_14 : tI t14 68 14 = tI t12 68 14 := by rw [ht14, tI_uI, if_neg (by decide)]
        have kf14_68_19 : tI t14 68 19 = tI t12 68 19 := by rw [ht14, tI_uI, if_neg (by decide)]
        have kf14_68_20 : tI t14 68 20 = (z13 + 1) := by rw [ht14, tI_uI, if_pos ⟨rfl, rfl⟩]
        have kf14_68_22 : tI t14 68 22 = tI t12 68 22 := by rw [ht14, tI_uI, if_neg (by decide)]
        have fr14 := fr12.uI ht14 (by simp)
        have p3 := ht14
        have eE : EN t14 1 p := q0.opd (v := (10000 + z9)) (by omega) (by omega) (by omega) (by omega) (fun i => by rw [p3, tA_uI, p2, tA_uI, p1, tA_uA, if_neg (by omega)]) (fun i => by
          rw [p3, tA_uI, p2, tA_uI, p1, tA_uA]
          by_cases h9 : i = (tI t 68 19).toNat
          · rw [if_pos (by omega), if_pos h9]
          · rw [if_neg (by omega), if_neg h9])
        refine w_aload rfl ?_
        refine w_push kc_6 ?_
        refine w_callV1V (oj_68 _).choose_spec rfl (c_X9_settle ok14 eE.1 (by omega) (by omega) (by omega)) ?_
        rintro t15 ⟨ok15, fq15, hp15_0, hp15_1, hp15_2, hp15_3, hp15_4⟩
        have fr15 := fr14.then fq15 (by simp)
        have kf15_68_9 : tI t15 68 9 = tI t14 68 9 := fq15.1 68 9 (by simp)
        have kf15_68_10 : tI t15 68 10 = tI t14 68 10 := fq15.1 68 10 (by simp)
        have kf15_68_11 : tI t15 68 11 = tI t14 68 11 := fq15.1 68 11 (by simp)
        have kf15_68_12 : tI t15 68 12 = tI t14 68 12 := fq15.1 68 12 (by simp)
        have kf15_68_13 : tI t15 68 13 = tI t14 68 13 := fq15.1 68 13 (by simp)
        have kf15_68_14 : tI t15 68 14 = tI t14 68 14 := fq15.1 68 14 (by simp)
        have kf15_68_20 : tI t15 68 20 = tI t14 68 20 := fq15.1 68 20 (by simp)
        have eE := eE.st fq15 (by simp) hp15_0 hp15_4
        refine w_aload rfl ?_
        refine w_callV0V (oj_68 _).choose_spec rfl (c_X9_go ok15 (by omega)) ?_
        rintro t16 ⟨ok16, fq16, hp16_0, hp16_1, hp16_2, hp16_3, hp16_4⟩
        have fr16 := fr15.then fq16 (by simp)
        have kf16_68_9 : tI t16 68 9 = tI t15 68 9 := fq16.1 68 9 (by simp)
        have kf16_68_19 : tI t16 68 19 = tI t15 68 19 := fq16.1 68 19 (by simp)
        have kf16_68_20 : tI t16 68 20 = tI t15 68 20 := fq16.1 68 20 (by simp)
        have kf16_68_22 : tI t16 68 22 = tI t15 68 22 := fq16.1 68 22 (by simp)
        have eE := eE.fr fq16 (by simp) (by simp) (by simp) (by simp)
        refine w_push kc_1 ?_
        refine w_retI rfl ?_
        exact ⟨ok16, fr16, (by omega), (by omega), (by first | exact (fun _ => eE) | (intro h9; exact absurd rfl h9)), (by omega), (by omega), (by omega), (by omega), (by omega), (by omega), (by omega), (by omega)⟩
      refine w_aload rfl ?_
      refine w_getI (g_68_13 _) fe_68_13 ok (fun z17 hz17 hl17 hh17 => ?_)
      refine w_goto ?_
      refine w_step rfl ?_
      refine w_iast (i := (z5).toNat) (ai_78 _) rfl (by omega) (by omega) (ae_78 _) ok (by omega) (fun t18 ht18 ok18 => ?_)
      have kf18_68_9 : tI t18 68 9 = tI t 68 9 := by rw [ht18]; rfl
      have kf18_68_10 : tI t18 68 10 = tI t 68 10 := by rw [ht18]; rfl
      have kf18_68_11 : tI t18 68 11 = tI t 68 11 := by rw [ht18]; rfl
      have kf18_68_12 : tI t18 68 12 = tI t 68 12 := by rw [ht18]; rfl
      have kf18_68_13 : tI t18 68 13 = tI t 68 13 := by rw [ht18]; rfl
      have kf18_68_14 : tI t18 68 14 = tI t 68 14 := by rw [ht18]; rfl
      have kf18_68_19 : tI t18 68 19 = tI t 68 19 := by rw [ht18]; rfl
      have kf18_68_20 : tI t18 68 20 = tI t 68 20 := by rw [ht18]; rfl
      have kf18_68_22 : tI t18 68 22 = tI t 68 22 := by rw [ht18]; rfl
      have fr18 := fr.uA ht18 (by simp)
      have p1 := ht18
      refine w_aload rfl ?_
      refine w_dupR ?_
      refine w_getI (g_68_19 _) fe_68_19 ok18 (fun z19 hz19 hl19 hh19 => ?_)
      refine w_push kc_1 ?_
      refine w_add ?_
      refine w_putI (p_68_19 _) fe_68_19 ok18 (by omega) (fun t20 ht20 ok20 => ?_)
      have kf20_68_9 : tI t20 68 9 = tI t18 68 9 := by rw [ht20, tI_uI, if_neg (by decide)]
      have kf20_68_10 : tI t20 68 10 = tI t18 68 10 := by rw [ht20, tI_uI, if_neg (by decide)]
      have kf20_68_11 : tI t20 68 11 = tI t18 68 11 := by rw [ht20, tI_uI, if_neg (by decide)]
      have kf20_68_12 : tI t20 68 12 = tI t18 68 12 := by rw [ht20, tI_uI, if_neg (by decide)]
      have kf20_68_13 : tI t20 68 13 = tI t18 68 13 := by rw [ht20, tI_uI, if_neg (by decide)]
      have kf20_68_14 : tI t20 68 14 = tI t18 68 14 := by rw [ht20, tI_uI, if_neg (by decide)]
      have kf20_68_19 : tI t20 68 19 = (z19 + 1) := by rw [ht20, tI_uI, if_pos ⟨rfl, rfl⟩]
      have kf20_68_20 : tI t20 68 20 = tI t18 68 20 := by rw [ht20, tI_uI, if_neg (by decide)]
      have kf20_68_22 : tI t20 68 22 = tI t18 68 22 := by rw [ht20, tI_uI, if_neg (by decide)]
      have fr20 := fr18.uI ht20 (by simp)
      have p2 := ht20
      refine w_aload rfl ?_
      refine w_dupR ?_
      refine w_getI (g_68_20 _) fe_68_20 ok20 (fun z21 hz21 hl21 hh21 => ?_)
      refine w_push kc_1 ?_
      refine w_add ?_
      refine w_putI (p_68_20 _) fe_68_20 ok20 (by omega) (fun t22 ht22 ok22 => ?_)
      have kf22_68_9 : tI t22 68 9 = tI t20 68 9 := by rw [ht22, tI_uI, if_neg (by decide)]
      have kf22_68_10 : tI t22 68 10 = tI t20 68 10 := by rw [ht22, tI_uI, if_neg (by decide)]
      have kf22_68_11 : tI t22 68 11 = tI t20 68 11 := by rw [ht22, tI_uI, if_neg (by decide)]
      have kf22_68_12 : tI t22 68 12 = tI t20 68 12 := by rw [ht22, tI_uI, if_neg (by decide)]
      have kf22_68_13 : tI t22 68 13 = tI t20 68 13 := by rw [ht22, tI_uI, if_neg (by decide)]
      have kf22_68_14 : tI t22 68 14 = tI t20 68 14 := by rw [ht22, tI_uI, if_neg (by decide)]
      have kf22_68_19 : tI t22 68 19 = tI t20 68 19 := by rw [ht22, tI_uI, if_neg (by decide)]
      have kf22_68_20 : tI t22 68 20 = (z21 + 1) := by rw [ht22, tI_uI, if_pos ⟨rfl, rfl⟩]
      have kf22_68_22 : tI t22 68 22 = tI t20 68 22 := by rw [ht22, tI_uI, if_neg (by decide)]
      have fr22 := fr20.uI ht22 (by simp)
      have p3 := ht22
      have eE : EN t22 1 p := q0.opd (v := z17) (by omega) (by omega) (by omega) (by omega) (fun i => by rw [p3, tA_uI, p2, tA_uI, p1, tA_uA, if_neg (by omega)]) (fun i => by
        rw [p3, tA_uI, p2, tA_uI, p1, tA_uA]
        by_cases h9 : i = (tI t 68 19).toNat
        · rw [if_pos (by omega), if_pos h9]
        · rw [if_neg (by omega), if_neg h9])
      refine w_aload rfl ?_
      refine w_push kc_6 ?_
      refine w_callV1V (oj_68 _).choose_spec rfl (c_X9_settle ok22 eE.1 (by omega) (by omega) (by omega)) ?_
      rintro t23 ⟨ok23, fq23, hp23_0, hp23_1, hp23_2, hp23_3, hp23_4⟩
      have fr23 := fr22.then fq23 (by simp)
      have kf23_68_9 : tI t23 68 9 = tI t22 68 9 := fq23.1 68 9 (by simp)
      have kf23_68_10 : tI t23 68 10 = tI t22 68 10 := fq23.1 68 10 (by simp)
      have kf23_68_11 : tI t23 68 11 = tI t22 68 11 := fq23.1 68 11 (by simp)
      have kf23_68_12 : tI t23 68 12 = tI t22 68 12 := fq23.1 68 12 (by simp)
      have kf23_68_13 : tI t23 68 13 = tI t22 68 13 := fq23.1 68 13 (by simp)
      have kf23_68_14 : tI t23 68 14 = tI t22 68 14 := fq23.1 68 14 (by simp)
      have kf23_68_20 : tI t23 68 20 = tI t22 68 20 := fq23.1 68 20 (by simp)
      have eE := eE.st fq23 (by simp) hp23_0 hp23_4
      refine w_aload rfl ?_
      refine w_callV0V (oj_68 _).choose_spec rfl (c_X9_go ok23 (by omega)) ?_
      rintro t24 ⟨ok24, fq24, hp24_0, hp24_1, hp24_2, hp24_3, hp24_4⟩
      have fr24 := fr23.then fq24 (by simp)
      have kf24_68_9 : tI t24 68 9 = tI t23 68 9 := fq24.1 68 9 (by simp)
      have kf24_68_19 : tI t24 68 19 = tI t23 68 19 := fq24.1 68 19 (by simp)
      have kf24_68_20 : tI t24 68 20 = tI t23 68 20 := fq24.1 68 20 (by simp)
      have kf24_68_22 : tI t24 68 22 = tI t23 68 22 := fq24.1 68 22 (by simp)
      have eE := eE.fr fq24 (by simp) (by simp) (by simp) (by simp)
      refine w_push kc_1 ?_
      refine w_retI rfl ?_
      exact ⟨ok24, fr24, (by omega), (by omega), (by first | exact (fun _ => eE) | (intro h9; exact absurd rfl h9)), (by omega), (by omega), (by omega), (by omega), (by omega), (by omega), (by omega), (by omega)⟩
    refine w_iload rfl ?_
    refine w_ine (by omega) (fun h => absurd h (by omega)) (fun _ => ?_)
    refine w_push kc_0 ?_
    refine w_retI rfl ?_
    exact ⟨ok, fr, (by omega), (by omega), (by first | exact (fun _ => eE) | (intro h9; exact absurd rfl h9)), (by omega), (by omega), (by omega), (by omega), (by omega), (by omega), (by omega), (by omega)⟩
  refine w_aload rfl ?_
  refine w_getI (g_68_10 _) fe_68_10 ok (fun z25 hz25 hl25 hh25 => ?_)
  refine w_aload rfl ?_
  refine w_getI (g_68_11 _) fe_68_11 ok (fun z26 hz26 hl26 hh26 => ?_)
  refine w_sub ?_
  refine w_push kc_1 ?_
  refine w_cne (by omega) (fun h27 => ?_) (fun h27 => ?_)
  · skip
    refine w_step rfl ?_
    refine w_push kc_0 ?_
    refine w_goto ?_
    refine w_step rfl ?_
    refine w_istore (lv' := [some (.ref 68), some (.int (jI 0))]) rfl ?_
    refine w_aload rfl ?_
    refine w_getI (g_68_12 _) fe_68_12 ok (fun z28 hz28 hl28 hh28 => ?_)
    refine w_push kc_2 ?_
    refine w_ceq (by omega) (fun h29 => ?_) (fun h29 => ?_)
    · skip
      refine w_step rfl ?_
      refine w_aload rfl ?_
      refine w_getR (g_68_18 _) ?_
      refine w_aload rfl ?_
      refine w_getI (g_68_19 _) fe_68_19 ok (fun z30 hz30 hl30 hh30 => ?_)
      refine w_aload rfl ?_
      refine w_getI (g_68_12 _) fe_68_12 ok (fun z31 hz31 hl31 hh31 => ?_)
      refine w_push kc_2 ?_
      refine w_cne (by omega) (fun h32 => ?_) (fun h32 => ?_)
      · skip
        refine w_step rfl ?_
        refine w_push kc_10000 ?_
        refine w_aload rfl ?_
        refine w_aload rfl ?_
        refine w_getI (g_68_13 _) fe_68_13 ok (fun z33 hz33 hl33 hh33 => ?_)
        refine w_callV1I (oj_68 _).choose_spec rfl (c_X9_nameOf ok (by omega) (by omega)) ?_
        rintro z34 t34 ⟨rfl, hp34_0, hp34_1, hp34_2⟩
        rw [hz33] at hp34_0
        refine w_add ?_
        refine w_goto ?_
        refine w_step rfl ?_
        refine w_iast (i := (z30).toNat) (ai_78 _) rfl (by omega) (by omega) (ae_78 _) ok (by omega) (fun t35 ht35 ok35 => ?_)
        have kf35_68_9 : tI t35 68 9 = tI t 68 9 := by rw [ht35]; rfl
        have kf35_68_10 : tI t35 68 10 = tI t 68 10 := by rw [ht35]; rfl
        have kf35_68_11 : tI t35 68 11 = tI t 68 11 := by rw [ht35]; rfl
        have kf35_68_12 : tI t35 68 12 = tI t 68 12 := by rw [ht35]; rfl
        have kf35_68_13 : tI t35 68 13 = tI t 68 13 := by rw [ht35]; rfl
        have kf35_68_14 : tI t35 68 14 = tI t 68 14 := by rw [ht35]; rfl
        have kf35_68_19 : tI t35 68 19 = tI t 68 19 := by rw [ht35]; rfl
        have kf35_68_20 : tI t35 68 20 = tI t 68 20 := by rw [ht35]; rfl
        have kf35_68_22 : tI t35 68 22 = tI t 68 22 := by rw [ht35]; rfl
        have fr35 := fr.uA ht35 (by simp)
        have p1 := ht35
        refine w_aload rfl ?_
        refine w_dupR ?_
        refine w_getI (g_68_19 _) fe_68_19 ok35 (fun z36 hz36 hl36 hh36 => ?_)
        refine w_push kc_1 ?_
        refine w_add ?_
        refine w_putI (p_68_19 _) fe_68_19 ok35 (by omega) (fun t37 ht37 ok37 => ?_)
        have kf37_68_9 : tI t37 68 9 = tI t35 68 9 := by rw [ht37, tI_uI, if_neg (by decide)]
        have kf37_68_10 : tI t37 68 10 = tI t35 68 10 := by rw [ht37, tI_uI, if_neg (by decide)]
        have kf37_68_11 : tI t37 68 11 = tI t35 68 11 := by rw [ht37, tI_uI, if_neg (by decide)]
        have kf37_68_12 : tI t37 68 12 = tI t35 68 12 := by rw [ht37, tI_uI, if_neg (by decide)]
        have kf37_68_13 : tI t37 68 13 = tI t35 68 13 := by rw [ht37, tI_uI, if_neg (by decide)]
        have kf37_68_14 : tI t37 68 14 = tI t35 68 14 := by rw [ht37, tI_uI, if_neg (by decide)]
        have kf37_68_19 : tI t37 68 19 = (z36 + 1) := by rw [ht37, tI_uI, if_pos ⟨rfl, rfl⟩]
        have kf37_68_20 : tI t37 68 20 = tI t35 68 20 := by rw [ht37, tI_uI, if_neg (by decide)]
        have kf37_68_22 : tI t37 68 22 = tI t35 68 22 := by rw [ht37, tI_uI, if_neg (by decide)]
        have fr37 := fr35.uI ht37 (by simp)
        have p2 := ht37
        refine w_aload rfl ?_
        refine w_dupR ?_
        refine w_getI (g_68_20 _) fe_68_20 ok37 (fun z38 hz38 hl38 hh38 => ?_)
        refine w_push kc_1 ?_
        refine w_add ?_
        refine w_putI (p_68_20 _) fe_68_20 ok37 (by omega) (fun t39 ht39 ok39 => ?_)
        have kf39_68_9 : tI t39 68 9 = tI t37 68 9 := by rw [ht39, tI_uI, if_neg (by decide)]
        have kf39_68_10 : tI t39 68 10 = tI t37 68 10 := by rw [ht39, tI_uI, if_neg (by decide)]
        have kf39_68_11 : tI t39 68 11 = tI t37 68 11 := by rw [ht39, tI_uI, if_neg (by decide)]
        have kf39_68_12 : tI t39 68 12 = tI t37 68 12 := by rw [ht39, tI_uI, if_neg (by decide)]
        have kf39_68_13 : tI t39 68 13 = tI t37 68 13 := by rw [ht39, tI_uI, if_neg (by decide)]
        have kf39_68_14 : tI t39 68 14 = tI t37 68 14 := by rw [ht39, tI_uI, if_neg (by decide)]
        have kf39_68_19 : tI t39 68 19 = tI t37 68 19 := by rw [ht39, tI_uI, if_neg (by decide)]
        have kf39_68_20 : tI t39 68 20 = (z38 + 1) := by rw [ht39, tI_uI, if_pos ⟨rfl, rfl⟩]
        have kf39_68_22 : tI t39 68 22 = tI t37 68 22 := by rw [ht39, tI_uI, if_neg (by decide)]
        have fr39 := fr37.uI ht39 (by simp)
        have p3 := ht39
        have eE : EN t39 1 p := q0.opd (v := (10000 + z34)) (by omega) (by omega) (by omega) (by omega) (fun i => by rw [p3, tA_uI, p2, tA_uI, p1, tA_uA, if_neg (by omega)]) (fun i => by
          rw [p3, tA_uI, p2, tA_uI, p1, tA_uA]
          by_cases h9 : i = (tI t 68 19).toNat
          · rw [if_pos (by omega), if_pos h9]
          · rw [if_neg (by omega), if_neg h9])
        refine w_aload rfl ?_
        refine w_push kc_6 ?_
        refine w_callV1V (oj_68 _).choose_spec rfl (c_X9_settle ok39 eE.1 (by omega) (by omega) (by omega)) ?_
        rintro t40 ⟨ok40, fq40, hp40_0, hp40_1, hp40_2, hp40_3, hp40_4⟩
        have fr40 := fr39.then fq40 (by simp)
        have kf40_68_9 : tI t40 68 9 = tI t39 68 9 := fq40.1 68 9 (by simp)
        have kf40_68_10 : tI t40 68 10 = tI t39 68 10 := fq40.1 68 10 (by simp)
        have kf40_68_11 : tI t40 68 11 = tI t39 68 11 := fq40.1 68 11 (by simp)
        have kf40_68_12 : tI t40 68 12 = tI t39 68 12 := fq40.1 68 12 (by simp)
        have kf40_68_13 : tI t40 68 13 = tI t39 68 13 := fq40.1 68 13 (by simp)
        have kf40_68_14 : tI t40 68 14 = tI t39 68 14 := fq40.1 68 14 (by simp)
        have kf40_68_20 : tI t40 68 20 = tI t39 68 20 := fq40.1 68 20 (by simp)
        have eE := eE.st fq40 (by simp) hp40_0 hp40_4
        refine w_aload rfl ?_
        refine w_callV0V (oj_68 _).choose_spec rfl (c_X9_go ok40 (by omega)) ?_
        rintro t41 ⟨ok41, fq41, hp41_0, hp41_1, hp41_2, hp41_3, hp41_4⟩
        have fr41 := fr40.then fq41 (by simp)
        have kf41_68_9 : tI t41 68 9 = tI t40 68 9 := fq41.1 68 9 (by simp)
        have kf41_68_19 : tI t41 68 19 = tI t40 68 19 := fq41.1 68 19 (by simp)
        have kf41_68_20 : tI t41 68 20 = tI t40 68 20 := fq41.1 68 20 (by simp)
        have kf41_68_22 : tI t41 68 22 = tI t40 68 22 := fq41.1 68 22 (by simp)
        have eE := eE.fr fq41 (by simp) (by simp) (by simp) (by simp)
        refine w_push kc_1 ?_
        refine w_retI rfl ?_
        exact ⟨ok41, fr41, (by omega), (by omega), (by first | exact (fun _ => eE) | (intro h9; exact absurd rfl h9)), (by omega), (by omega), (by omega), (by omega), (by omega), (by omega), (by omega), (by omega)⟩
      refine w_aload rfl ?_
      refine w_getI (g_68_13 _) fe_68_13 ok (fun z42 hz42 hl42 hh42 => ?_)
      refine w_goto ?_
      refine w_step rfl ?_
      refine w_iast (i := (z30).toNat) (ai_78 _) rfl (by omega) (by omega) (ae_78 _) ok (by omega) (fun t43 ht43 ok43 => ?_)
      have kf43_68_9 : tI t43 68 9 = tI t 68 9 := by rw [ht43]; rfl
      have kf43_68_10 : tI t43 68 10 = tI t 68 10 := by rw [ht43]; rfl
      have kf43_68_11 : tI t43 68 11 = tI t 68 11 := by rw [ht43]; rfl
      have kf43_68_12 : tI t43 68 12 = tI t 68 12 := by rw [ht43]; rfl
      have kf43_68_13 : tI t43 68 13 = tI t 68 13 := by rw [ht43]; rfl
      have kf43_68_14 : tI t43 68 14 = tI t 68 14 := by rw [ht43]; rfl
      have kf43_68_19 : tI t43 68 19 = tI t 68 19 := by rw [ht43]; rfl
      have kf43_68_20 : tI t43 68 20 = tI t 68 20 := by rw [ht43]; rfl
      have kf43_68_22 : tI t43 68 22 = tI t 68 22 := by rw [ht43]; rfl
      have fr43 := fr.uA ht43 (by simp)
      have p1 := ht43
      refine w_aload rfl ?_
      refine w_dupR ?_
      refine w_getI (g_68_19 _) fe_68_19 ok43 (fun z44 hz44 hl44 hh44 => ?_)
      refine w_push kc_1 ?_
      refine w_add ?_
      refine w_putI (p_68_19 _) fe_68_19 ok43 (by omega) (fun t45 ht45 ok45 => ?_)
      have kf45_68_9 : tI t45 68 9 = tI t43 68 9 := by rw [ht45, tI_uI, if_neg (by decide)]
      have kf45_68_10 : tI t45 68 10 = tI t43 68 10 := by rw [ht45, tI_uI, if_neg (by decide)]
      have kf45_68_11 : tI t45 68 11 = tI t43 68 11 := by rw [ht45, tI_uI, if_neg (by decide)]
      have kf45_68_12 : tI t45 68 12 = tI t43 68 12 := by rw [ht45, tI_uI, if_neg (by decide)]
      have kf45_68_13 : tI t45 68 13 = tI t43 68 13 := by rw [ht45, tI_uI, if_neg (by decide)]
      have kf45_68_14 : tI t45 68 14 = tI t43 68 14 := by rw [ht45, tI_uI, if_neg (by decide)]
      have kf45_68_19 : tI t45 68 19 = (z44 + 1) := by rw [ht45, tI_uI, if_pos ⟨rfl, rfl⟩]
      have kf45_68_20 : tI t45 68 20 = tI t43 68 20 := by rw [ht45, tI_uI, if_neg (by decide)]
      have kf45_68_22 : tI t45 68 22 = tI t43 68 22 := by rw [ht45, tI_uI, if_neg (by decide)]
      have fr45 := fr43.uI ht45 (by simp)
      have p2 := ht45
      refine w_aload rfl ?_
      refine w_dupR ?_
      refine w_getI (g_68_20 _) fe_68_20 ok45 (fun z46 hz46 hl46 hh46 => ?_)
      refine w_push kc_1 ?_
      refine w_add ?_
      refine w_putI (p_68_20 _) fe_68_20 ok45 (by omega) (fun t47 ht47 ok47 => ?_)
      have kf47_68_9 : tI t47 68 9 = tI t45 68 9 := by rw [ht47, tI_uI, if_neg (by decide)]
      have kf47_68_10 : tI t47 68 10 = tI t45 68 10 := by rw [ht47, tI_uI, if_neg (by decide)]
      have kf47_68_11 : tI t47 68 11 = tI t45 68 11 := by rw [ht47, tI_uI, if_neg (by decide)]
      have kf47_68_12 : tI t47 68 12 = tI t45 68 12 := by rw [ht47, tI_uI, if_neg (by decide)]
      have kf47_68_13 : tI t47 68 13 = tI t45 68 13 := by rw [ht47, tI_uI, if_neg (by decide)]
      have kf47_68_14 : tI t47 68 14 = tI t45 68 14 := by rw [ht47, tI_uI, if_neg (by decide)]
      have kf47_68_19 : tI t47 68 19 = tI t45 68 19 := by rw [ht47, tI_uI, if_neg (by decide)]
      have kf47_68_20 : tI t47 68 20 = (z46 + 1) := by rw [ht47, tI_uI, if_pos ⟨rfl, rfl⟩]
      have kf47_68_22 : tI t47 68 22 = tI t45 68 22 := by rw [ht47, tI_uI, if_neg (by decide)]
      have fr47 := fr45.uI ht47 (by simp)
      have p3 := ht47
      have eE : EN t47 1 p := q0.opd (v := z42) (by omega) (by omega) (by omega) (by omega) (fun i => by rw [p3, tA_uI, p2, tA_uI, p1, tA_uA, if_neg (by omega)]) (fun i => by
        rw [p3, tA_uI, p2, tA_uI, p1, tA_uA]
        by_cases h9 : i = (tI t 68 19).toNat
        · rw [if_pos (by omega), if_pos h9]
        · rw [if_neg (by omega), if_neg h9])
      refine w_aload rfl ?_
      refine w_push kc_6 ?_
      refine w_callV1V (oj_68 _).choose_spec rfl (c_X9_settle ok47 eE.1 (by omega) (by omega) (by omega)) ?_
      rintro t48 ⟨ok48, fq48, hp48_0, hp48_1, hp48_2, hp48_3, hp48_4⟩
      have fr48 := fr47.then fq48 (by simp)
      have kf48_68_9 : tI t48 68 9 = tI t47 68 9 := fq48.1 68 9 (by simp)
      have kf48_68_10 : tI t48 68 10 = tI t47 68 10 := fq48.1 68 10 (by simp)
      have kf48_68_11 : tI t48 68 11 = tI t47 68 11 := fq48.1 68 11 (by simp)
      have kf48_68_12 : tI t48 68 12 = tI t47 68 12 := fq48.1 68 12 (by simp)
      have kf48_68_13 : tI t48 68 13 = tI t47 68 13 := fq48.1 68 13 (by simp)
      have kf48_68_14 : tI t48 68 14 = tI t47 68 14 := fq48.1 68 14 (by simp)
      have kf48_68_20 : tI t48 68 20 = tI t47 68 20 := fq48.1 68 20 (by simp)
      have eE := eE.st fq48 (by simp) hp48_0 hp48_4
      refine w_aload rfl ?_
      refine w_callV0V (oj_68 _).choose_spec rfl (c_X9_go ok48 (by omega)) ?_
      rintro t49 ⟨ok49, fq49, hp49_0, hp49_1, hp49_2, hp49_3, hp49_4⟩
      have fr49 := fr48.then fq49 (by simp)
      have kf49_68_9 : tI t49 68 9 = tI t48 68 9 := fq49.1 68 9 (by simp)
      have kf49_68_19 : tI t49 68 19 = tI t48 68 19 := fq49.1 68 19 (by simp)
      have kf49_68_20 : tI t49 68 20 = tI t48 68 20 := fq49.1 68 20 (by simp)
      have kf49_68_22 : tI t49 68 22 = tI t48 68 22 := fq49.1 68 22 (by simp)
      have eE := eE.fr fq49 (by simp) (by simp) (by simp) (by simp)
      refine w_push kc_1 ?_
      refine w_retI rfl ?_
      exact ⟨ok49, fr49, (by omega), (by omega), (by first | exact (fun _ => eE) | (intro h9; exact absurd rfl h9)), (by omega), (by omega), (by omega), (by omega), (by omega), (by omega), (by omega), (by omega)⟩
    refine w_iload rfl ?_
    refine w_ine (by omega) (fun h => absurd h (by omega)) (fun _ => ?_)
    refine w_push kc_0 ?_
    refine w_retI rfl ?_
    exact ⟨ok, fr, (by omega), (by omega), (by first | exact (fun _ => eE) | (intro h9; exact absurd rfl h9)), (by omega), (by omega), (by omega), (by omega), (by omega), (by omega), (by omega), (by omega)⟩
  refine w_aload rfl ?_
  refine w_aload rfl ?_
  refine w_getI (g_68_13 _) fe_68_13 ok (fun z50 hz50 hl50 hh50 => ?_)
  refine w_callV1I (oj_68 _).choose_spec rfl (c_X9_nameOf ok (by omega) (by omega)) ?_
  rintro z51 t51 ⟨rfl, hp51_0, hp51_1, hp51_2⟩
  rw [hz50] at hp51_0
  refine w_ilt (by omega) (fun h52 => ?_) (fun h52 => ?_)
  · skip
    refine w_step rfl ?_
    refine w_push kc_0 ?_
    refine w_goto ?_
    refine w_step rfl ?_
    refine w_istore (lv' := [some (.ref 68), some (.int (jI 0))]) rfl ?_
    refine w_aload rfl ?_
    refine w_getI (g_68_12 _) fe_68_12 ok (fun z53 hz53 hl53 hh53 => ?_)
    refine w_push kc_2 ?_
    refine w_ceq (by omega) (fun h54 => ?_) (fun h54 => ?_)
    · skip
      refine w_step rfl ?_
      refine w_aload rfl ?_
      refine w_getR (g_68_18 _) ?_
      refine w_aload rfl ?_
      refine w_getI (g_68_19 _) fe_68_19 ok (fun z55 hz55 hl55 hh55 => ?_)
      refine w_aload rfl ?_
      refine w_getI (g_68_12 _) fe_68_12 ok (fun z56 hz56 hl56 hh56 => ?_)
      refine w_push kc_2 ?_
      refine w_cne (by omega) (fun h57 => ?_) (fun h57 => ?_)
      · skip
        refine w_step rfl ?_
        refine w_push kc_10000 ?_
        refine w_aload rfl ?_
        refine w_aload rfl ?_
        refine w_getI (g_68_13 _) fe_68_13 ok (fun z58 hz58 hl58 hh58 => ?_)
        refine w_callV1I (oj_68 _).choose_spec rfl (c_X9_nameOf ok (by omega) (by omega)) ?_
        rintro z59 t59 ⟨rfl, hp59_0, hp59_1, hp59_2⟩
        rw [hz58] at hp59_0
        refine w_add ?_
        refine w_goto ?_
        refine w_step rfl ?_
        refine w_iast (i := (z55).toNat) (ai_78 _) rfl (by omega) (by omega) (ae_78 _) ok (by omega) (fun t60 ht60 ok60 => ?_)
        have kf60_68_9 : tI t60 68 9 = tI t 68 9 := by rw [ht60]; rfl
        have kf60_68_10 : tI t60 68 10 = tI t 68 10 := by rw [ht60]; rfl
        have kf60_68_11 : tI t60 68 11 = tI t 68 11 := by rw [ht60]; rfl
        have kf60_68_12 : tI t60 68 12 = tI t 68 12 := by rw [ht60]; rfl
        have kf60_68_13 : tI t60 68 13 = tI t 68 13 := by rw [ht60]; rfl
        have kf60_68_14 : tI t60 68 14 = tI t 68 14 := by rw [ht60]; rfl
        have kf60_68_19 : tI t60 68 19 = tI t 68 19 := by rw [ht60]; rfl
        have kf60_68_20 : tI t60 68 20 = tI t 68 20 := by rw [ht60]; rfl
        have kf60_68_22 : tI t60 68 22 = tI t 68 22 := by rw [ht60]; rfl
        have fr60 := fr.uA ht60 (by simp)
        have p1 := ht60
        refine w_aload rfl ?_
        refine w_dupR ?_
        refine w_getI (g_68_19 _) fe_68_19 ok60 (fun z61 hz61 hl61 hh61 => ?_)
        refine w_push kc_1 ?_
        refine w_add ?_
        refine w_putI (p_68_19 _) fe_68_19 ok60 (by omega) (fun t62 ht62 ok62 => ?_)
        have kf62_68_9 : tI t62 68 9 = tI t60 68 9 := by rw [ht62, tI_uI, if_neg (by decide)]
        have kf62_68_10 : tI t62 68 10 = tI t60 68 10 := by rw [ht62, tI_uI, if_neg (by decide)]
        have kf62_68_11 : tI t62 68 11 = tI t60 68 11 := by rw [ht62, tI_uI, if_neg (by decide)]
        have kf62_68_12 : tI t62 68 12 = tI t60 68 12 := by rw [ht62, tI_uI, if_neg (by decide)]
        have kf62_68_13 : tI t62 68 13 = tI t60 68 13 := by rw [ht62, tI_uI, if_neg (by decide)]
        have kf62_68_14 : tI t62 68 14 = tI t60 68 14 := by rw [ht62, tI_uI, if_neg (by decide)]
        have kf62_68_19 : tI t62 68 19 = (z61 + 1) := by rw [ht62, tI_uI, if_pos ⟨rfl, rfl⟩]
        have kf62_68_20 : tI t62 68 20 = tI t60 68 20 := by rw [ht62, tI_uI, if_neg (by decide)]
        have kf62_68_22 : tI t62 68 22 = tI t60 68 22 := by rw [ht62, tI_uI, if_neg (by decide)]
        have fr62 := fr60.uI ht62 (by simp)
        have p2 := ht62
        refine w_aload rfl ?_
        refine w_dupR ?_
        refine w_getI (g_68_20 _) fe_68_20 ok62 (fun z63 hz63 hl63 hh63 => ?_)
        refine w_push kc_1 ?_
        refine w_add ?_
        refine w_putI (p_68_20 _) fe_68_20 ok62 (by omega) (fun t64 ht64 ok64 => ?_)
        have kf64_68_9 : tI t64 68 9 = tI t62 68 9 := by rw [ht64, tI_uI, if_neg (by decide)]
        have kf64_68_10 : tI t64 68 10 = tI t62 68 10 := by rw [ht64, tI_uI, if_neg (by decide)]
        have kf64_68_11 : tI t64 68 11 = tI t62 68 11 := by rw [ht64, tI_uI, if_neg (by decide)]
        have kf64_68_12 : tI t64 68 12 = tI t62 68 12 := by rw [ht64, tI_uI, if_neg (by decide)]
        have kf64_68_13 : tI t64 68 13 = tI t62 68 13 := by rw [ht64, tI_uI, if_neg (by decide)]
        have kf64_68_14 : tI t64 68 14 = tI t62 68 14 := by rw [ht64, tI_uI, if_neg (by decide)]
        have kf64_68_19 : tI t64 68 19 = tI t62 68 19 := by rw [ht64, tI_uI, if_neg (by decide)]
        have kf64_68_20 : tI t64 68 20 = (z63 + 1) := by rw [ht64, tI_uI, if_pos ⟨rfl, rfl⟩]
        have kf64_68_22 : tI t64 68 22 = tI t62 68 22 := by rw [ht64, tI_uI, if_neg (by decide)]
        have fr64 := fr62.uI ht64 (by simp)
        have p3 := ht64
        have eE : EN t64 1 p := q0.opd (v := (10000 + z59)) (by omega) (by omega) (by omega) (by omega) (fun i => by rw [p3, tA_uI, p2, tA_uI, p1, tA_uA, if_neg (by omega)]) (fun i => by
          rw [p3, tA_uI, p2, tA_uI, p1, tA_uA]
          by_cases h9 : i = (tI t 68 19).toNat
          · rw [if_pos (by omega), if_pos h9]
          · rw [if_neg (by omega), if_neg h9])
        refine w_aload rfl ?_
        refine w_push kc_6 ?_
        refine w_callV1V (oj_68 _).choose_spec rfl (c_X9_settle ok64 eE.1 (by omega) (by omega) (by omega)) ?_
        rintro t65 ⟨ok65, fq65, hp65_0, hp65_1, hp65_2, hp65_3, hp65_4⟩
        have fr65 := fr64.then fq65 (by simp)
        have kf65_68_9 : tI t65 68 9 = tI t64 68 9 := fq65.1 68 9 (by simp)
        have kf65_68_10 : tI t65 68 10 = tI t64 68 10 := fq65.1 68 10 (by simp)
        have kf65_68_11 : tI t65 68 11 = tI t64 68 11 := fq65.1 68 11 (by simp)
        have kf65_68_12 : tI t65 68 12 = tI t64 68 12 := fq65.1 68 12 (by simp)
        have kf65_68_13 : tI t65 68 13 = tI t64 68 13 := fq65.1 68 13 (by simp)
        have kf65_68_14 : tI t65 68 14 = tI t64 68 14 := fq65.1 68 14 (by simp)
        have kf65_68_20 : tI t65 68 20 = tI t64 68 20 := fq65.1 68 20 (by simp)
        have eE := eE.st fq65 (by simp) hp65_0 hp65_4
        refine w_aload rfl ?_
        refine w_callV0V (oj_68 _).choose_spec rfl (c_X9_go ok65 (by omega)) ?_
        rintro t66 ⟨ok66, fq66, hp66_0, hp66_1, hp66_2, hp66_3, hp66_4⟩
        have fr66 := fr65.then fq66 (by simp)
        have kf66_68_9 : tI t66 68 9 = tI t65 68 9 := fq66.1 68 9 (by simp)
        have kf66_68_19 : tI t66 68 19 = tI t65 68 19 := fq66.1 68 19 (by simp)
        have kf66_68_20 : tI t66 68 20 = tI t65 68 20 := fq66.1 68 20 (by simp)
        have kf66_68_22 : tI t66 68 22 = tI t65 68 22 := fq66.1 68 22 (by simp)
        have eE := eE.fr fq66 (by simp) (by simp) (by simp) (by simp)
        refine w_push kc_1 ?_
        refine w_retI rfl ?_
        exact ⟨ok66, fr66, (by omega), (by omega), (by first | exact (fun _ => eE) | (intro h9; exact absurd rfl h9)), (by omega), (by omega), (by omega), (by omega), (by omega), (by omega), (by omega), (by omega)⟩
      refine w_aload rfl ?_
      refine w_getI (g_68_13 _) fe_68_13 ok (fun z67 hz67 hl67 hh67 => ?_)
      refine w_goto ?_
      refine w_step rfl ?_
      refine w_iast (i := (z55).toNat) (ai_78 _) rfl (by omega) (by omega) (ae_78 _) ok (by omega) (fun t68 ht68 ok68 => ?_)
      have kf68_68_9 : tI t68 68 9 = tI t 68 9 := by rw [ht68]; rfl
      have kf68_68_10 : tI t68 68 10 = tI t 68 10 := by rw [ht68]; rfl
      have kf68_68_11 : tI t68 68 11 = tI t 68 11 := by rw [ht68]; rfl
      have kf68_68_12 : tI t68 68 12 = tI t 68 12 := by rw [ht68]; rfl
      have kf68_68_13 : tI t68 68 13 = tI t 68 13 := by rw [ht68]; rfl
      have kf68_68_14 : tI t68 68 14 = tI t 68 14 := by rw [ht68]; rfl
      have kf68_68_19 : tI t68 68 19 = tI t 68 19 := by rw [ht68]; rfl
      have kf68_68_20 : tI t68 68 20 = tI t 68 20 := by rw [ht68]; rfl
      have kf68_68_22 : tI t68 68 22 = tI t 68 22 := by rw [ht68]; rfl
      have fr68 := fr.uA ht68 (by simp)
      have p1 := ht68
      refine w_aload rfl ?_
      refine w_dupR ?_
      refine w_getI (g_68_19 _) fe_68_19 ok68 (fun z69 hz69 hl69 hh69 => ?_)
      refine w_push kc_1 ?_
      refine w_add ?_
      refine w_putI (p_68_19 _) fe_68_19 ok68 (by omega) (fun t70 ht70 ok70 => ?_)
      have kf70_68_9 : tI t70 68 9 = tI t68 68 9 := by rw [ht70, tI_uI, if_neg (by decide)]
      have kf70_68_10 : tI t70 68 10 = tI t68 68 10 := by rw [ht70, tI_uI, if_neg (by decide)]
      have kf70_68_11 : tI t70 68 11 = tI t68 68 11 := by rw [ht70, tI_uI, if_neg (by decide)]
      have kf70_68_12 : tI t70 68 12 = tI t68 68 12 := by rw [ht70, tI_uI, if_neg (by decide)]
      have kf70_68_13 : tI t70 68 13 = tI t68 68 13 := by rw [ht70, tI_uI, if_neg (by decide)]
      have kf70_68_14 : tI t70 68 14 = tI t68 68 14 := by rw [ht70, tI_uI, if_neg (by decide)]
      have kf70_68_19 : tI t70 68 19 = (z69 + 1) := by rw [ht70, tI_uI, if_pos ⟨rfl, rfl⟩]
      have kf70_68_20 : tI t70 68 20 = tI t68 68 20 := by rw [ht70, tI_uI, if_neg (by decide)]
      have kf70_68_22 : tI t70 68 22 = tI t68 68 22 := by rw [ht70, tI_uI, if_neg (by decide)]
      have fr70 := fr68.uI ht70 (by simp)
      have p2 := ht70
      refine w_aload rfl ?_
      refine w_dupR ?_
      refine w_getI (g_68_20 _) fe_68_20 ok70 (fun z71 hz71 hl71 hh71 => ?_)
      refine w_push kc_1 ?_
      refine w_add ?_
      refine w_putI (p_68_20 _) fe_68_20 ok70 (by omega) (fun t72 ht72 ok72 => ?_)
      have kf72_68_9 : tI t72 68 9 = tI t70 68 9 := by rw [ht72, tI_uI, if_neg (by decide)]
      have kf72_68_10 : tI t72 68 10 = tI t70 68 10 := by rw [ht72, tI_uI, if_neg (by decide)]
      have kf72_68_11 : tI t72 68 11 = tI t70 68 11 := by rw [ht72, tI_uI, if_neg (by decide)]
      have kf72_68_12 : tI t72 68 12 = tI t70 68 12 := by rw [ht72, tI_uI, if_neg (by decide)]
      have kf72_68_13 : tI t72 68 13 = tI t70 68 13 := by rw [ht72, tI_uI, if_neg (by decide)]
      have kf72_68_14 : tI t72 68 14 = tI t70 68 14 := by rw [ht72, tI_uI, if_neg (by decide)]
      have kf72_68_19 : tI t72 68 19 = tI t70 68 19 := by rw [ht72, tI_uI, if_neg (by decide)]
      have kf72_68_20 : tI t72 68 20 = (z71 + 1) := by rw [ht72, tI_uI, if_pos ⟨rfl, rfl⟩]
      have kf72_68_22 : tI t72 68 22 = tI t70 68 22 := by rw [ht72, tI_uI, if_neg (by decide)]
      have fr72 := fr70.uI ht72 (by simp)
      have p3 := ht72
      have eE : EN t72 1 p := q0.opd (v := z67) (by omega) (by omega) (by omega) (by omega) (fun i => by rw [p3, tA_uI, p2, tA_uI, p1, tA_uA, if_neg (by omega)]) (fun i => by
        rw [p3, tA_uI, p2, tA_uI, p1, tA_uA]
        by_cases h9 : i = (tI t 68 19).toNat
        · rw [if_pos (by omega), if_pos h9]
        · rw [if_neg (by omega), if_neg h9])
      refine w_aload rfl ?_
      refine w_push kc_6 ?_
      refine w_callV1V (oj_68 _).choose_spec rfl (c_X9_settle ok72 eE.1 (by omega) (by omega) (by omega)) ?_
      rintro t73 ⟨ok73, fq73, hp73_0, hp73_1, hp73_2, hp73_3, hp73_4⟩
      have fr73 := fr72.then fq73 (by simp)
      have kf73_68_9 : tI t73 68 9 = tI t72 68 9 := fq73.1 68 9 (by simp)
      have kf73_68_10 : tI t73 68 10 = tI t72 68 10 := fq73.1 68 10 (by simp)
      have kf73_68_11 : tI t73 68 11 = tI t72 68 11 := fq73.1 68 11 (by simp)
      have kf73_68_12 : tI t73 68 12 = tI t72 68 12 := fq73.1 68 12 (by simp)
      have kf73_68_13 : tI t73 68 13 = tI t72 68 13 := fq73.1 68 13 (by simp)
      have kf73_68_14 : tI t73 68 14 = tI t72 68 14 := fq73.1 68 14 (by simp)
      have kf73_68_20 : tI t73 68 20 = tI t72 68 20 := fq73.1 68 20 (by simp)
      have eE := eE.st fq73 (by simp) hp73_0 hp73_4
      refine w_aload rfl ?_
      refine w_callV0V (oj_68 _).choose_spec rfl (c_X9_go ok73 (by omega)) ?_
      rintro t74 ⟨ok74, fq74, hp74_0, hp74_1, hp74_2, hp74_3, hp74_4⟩
      have fr74 := fr73.then fq74 (by simp)
      have kf74_68_9 : tI t74 68 9 = tI t73 68 9 := fq74.1 68 9 (by simp)
      have kf74_68_19 : tI t74 68 19 = tI t73 68 19 := fq74.1 68 19 (by simp)
      have kf74_68_20 : tI t74 68 20 = tI t73 68 20 := fq74.1 68 20 (by simp)
      have kf74_68_22 : tI t74 68 22 = tI t73 68 22 := fq74.1 68 22 (by simp)
      have eE := eE.fr fq74 (by simp) (by simp) (by simp) (by simp)
      refine w_push kc_1 ?_
      refine w_retI rfl ?_
      exact ⟨ok74, fr74, (by omega), (by omega), (by first | exact (fun _ => eE) | (intro h9; exact absurd rfl h9)), (by omega), (by omega), (by omega), (by omega), (by omega), (by omega), (by omega), (by omega)⟩
    refine w_iload rfl ?_
    refine w_ine (by omega) (fun h => absurd h (by omega)) (fun _ => ?_)
    refine w_push kc_0 ?_
    refine w_retI rfl ?_
    exact ⟨ok, fr, (by omega), (by omega), (by first | exact (fun _ => eE) | (intro h9; exact absurd rfl h9)), (by omega), (by omega), (by omega), (by omega), (by omega), (by omega), (by omega), (by omega)⟩
  refine w_push kc_1 ?_
  refine w_goto ?_
  refine w_step rfl ?_
  refine w_istore (lv' := [some (.ref 68), some (.int (jI 1))]) rfl ?_
  refine w_aload rfl ?_
  refine w_getI (g_68_12 _) fe_68_12 ok (fun z75 hz75 hl75 hh75 => ?_)
  refine w_push kc_2 ?_
  refine w_ceq (by omega) (fun h76 => ?_) (fun h76 => ?_)
  · skip
    refine w_step rfl ?_
    refine w_aload rfl ?_
    refine w_getR (g_68_18 _) ?_
    refine w_aload rfl ?_
    refine w_getI (g_68_19 _) fe_68_19 ok (fun z77 hz77 hl77 hh77 => ?_)
    refine w_aload rfl ?_
    refine w_getI (g_68_12 _) fe_68_12 ok (fun z78 hz78 hl78 hh78 => ?_)
    refine w_push kc_2 ?_
    refine w_cne (by omega) (fun h79 => ?_) (fun h79 => ?_)
    · skip
      refine w_step rfl ?_
      refine w_push kc_10000 ?_
      refine w_aload rfl ?_
      refine w_aload rfl ?_
      refine w_getI (g_68_13 _) fe_68_13 ok (fun z80 hz80 hl80 hh80 => ?_)
      refine w_callV1I (oj_68 _).choose_spec rfl (c_X9_nameOf ok (by omega) (by omega)) ?_
      rintro z81 t81 ⟨rfl, hp81_0, hp81_1, hp81_2⟩
      rw [hz80] at hp81_0
      refine w_add ?_
      refine w_goto ?_
      refine w_step rfl ?_
      refine w_iast (i := (z77).toNat) (ai_78 _) rfl (by omega) (by omega) (ae_78 _) ok (by omega) (fun t82 ht82 ok82 => ?_)
      have kf82_68_9 : tI t82 68 9 = tI t 68 9 := by rw [ht82]; rfl
      have kf82_68_10 : tI t82 68 10 = tI t 68 10 := by rw [ht82]; rfl
      have kf82_68_11 : tI t82 68 11 = tI t 68 11 := by rw [ht82]; rfl
      have kf82_68_12 : tI t82 68 12 = tI t 68 12 := by rw [ht82]; rfl
      have kf82_68_13 : tI t82 68 13 = tI t 68 13 := by rw [ht82]; rfl
      have kf82_68_14 : tI t82 68 14 = tI t 68 14 := by rw [ht82]; rfl
      have kf82_68_19 : tI t82 68 19 = tI t 68 19 := by rw [ht82]; rfl
      have kf82_68_20 : tI t82 68 20 = tI t 68 20 := by rw [ht82]; rfl
      have kf82_68_22 : tI t82 68 22 = tI t 68 22 := by rw [ht82]; rfl
      have fr82 := fr.uA ht82 (by simp)
      have p1 := ht82
      refine w_aload rfl ?_
      refine w_dupR ?_
      refine w_getI (g_68_19 _) fe_68_19 ok82 (fun z83 hz83 hl83 hh83 => ?_)
      refine w_push kc_1 ?_
      refine w_add ?_
      refine w_putI (p_68_19 _) fe_68_19 ok82 (by omega) (fun t84 ht84 ok84 => ?_)
      have kf84_68_9 : tI t84 68 9 = tI t82 68 9 := by rw [ht84, tI_uI, if_neg (by decide)]
      have kf84_68_10 : tI t84 68 10 = tI t82 68 10 := by rw [ht84, tI_uI, if_neg (by decide)]
      have kf84_68_11 : tI t84 68 11 = tI t82 68 11 := by rw [ht84, tI_uI, if_neg (by decide)]
      have kf84_68_12 : tI t84 68 12 = tI t82 68 12 := by rw [ht84, tI_uI, if_neg (by decide)]
      have kf84_68_13 : tI t84 68 13 = tI t82 68 13 := by rw [ht84, tI_uI, if_neg (by decide)]
      have kf84_68_14 : tI t84 68 14 = tI t82 68 14 := by rw [ht84, tI_uI, if_neg (by decide)]
      have kf84_68_19 : tI t84 68 19 = (z83 + 1) := by rw [ht84, tI_uI, if_pos ⟨rfl, rfl⟩]
      have kf84_68_20 : tI t84 68 20 = tI t82 68 20 := by rw [ht84, tI_uI, if_neg (by decide)]
      have kf84_68_22 : tI t84 68 22 = tI t82 68 22 := by rw [ht84, tI_uI, if_neg (by decide)]
      have fr84 := fr82.uI ht84 (by simp)
      have p2 := ht84
      refine w_aload rfl ?_
      refine w_dupR ?_
      refine w_getI (g_68_20 _) fe_68_20 ok84 (fun z85 hz85 hl85 hh85 => ?_)
      refine w_push kc_1 ?_
      refine w_add ?_
      refine w_putI (p_68_20 _) fe_68_20 ok84 (by omega) (fun t86 ht86 ok86 => ?_)
      have kf86_68_9 : tI t86 68 9 = tI t84 68 9 := by rw [ht86, tI_uI, if_neg (by decide)]
      have kf86_68_10 : tI t86 68 10 = tI t84 68 10 := by rw [ht86, tI_uI, if_neg (by decide)]
      have kf86_68_11 : tI t86 68 11 = tI t84 68 11 := by rw [ht86, tI_uI, if_neg (by decide)]
      have kf86_68_12 : tI t86 68 12 = tI t84 68 12 := by rw [ht86, tI_uI, if_neg (by decide)]
      have kf86_68_13 : tI t86 68 13 = tI t84 68 13 := by rw [ht86, tI_uI, if_neg (by decide)]
      have kf86_68_14 : tI t86 68 14 = tI t84 68 14 := by rw [ht86, tI_uI, if_neg (by decide)]
      have kf86_68_19 : tI t86 68 19 = tI t84 68 19 := by rw [ht86, tI_uI, if_neg (by decide)]
      have kf86_68_20 : tI t86 68 20 = (z85 + 1) := by rw [ht86, tI_uI, if_pos ⟨rfl, rfl⟩]
      have kf86_68_22 : tI t86 68 22 = tI t84 68 22 := by rw [ht86, tI_uI, if_neg (by decide)]
      have fr86 := fr84.uI ht86 (by simp)
      have p3 := ht86
      have eE : EN t86 1 p := q0.opd (v := (10000 + z81)) (by omega) (by omega) (by omega) (by omega) (fun i => by rw [p3, tA_uI, p2, tA_uI, p1, tA_uA, if_neg (by omega)]) (fun i => by
        rw [p3, tA_uI, p2, tA_uI, p1, tA_uA]
        by_cases h9 : i = (tI t 68 19).toNat
        · rw [if_pos (by omega), if_pos h9]
        · rw [if_neg (by omega), if_neg h9])
      refine w_aload rfl ?_
      refine w_push kc_6 ?_
      refine w_callV1V (oj_68 _).choose_spec rfl (c_X9_settle ok86 eE.1 (by omega) (by omega) (by omega)) ?_
      rintro t87 ⟨ok87, fq87, hp87_0, hp87_1, hp87_2, hp87_3, hp87_4⟩
      have fr87 := fr86.then fq87 (by simp)
      have kf87_68_9 : tI t87 68 9 = tI t86 68 9 := fq87.1 68 9 (by simp)
      have kf87_68_10 : tI t87 68 10 = tI t86 68 10 := fq87.1 68 10 (by simp)
      have kf87_68_11 : tI t87 68 11 = tI t86 68 11 := fq87.1 68 11 (by simp)
      have kf87_68_12 : tI t87 68 12 = tI t86 68 12 := fq87.1 68 12 (by simp)
      have kf87_68_13 : tI t87 68 13 = tI t86 68 13 := fq87.1 68 13 (by simp)
      have kf87_68_14 : tI t87 68 14 = tI t86 68 14 := fq87.1 68 14 (by simp)
      have kf87_68_20 : tI t87 68 20 = tI t86 68 20 := fq87.1 68 20 (by simp)
      have eE := eE.st fq87 (by simp) hp87_0 hp87_4
      refine w_aload rfl ?_
      refine w_callV0V (oj_68 _).choose_spec rfl (c_X9_go ok87 (by omega)) ?_
      rintro t88 ⟨ok88, fq88, hp88_0, hp88_1, hp88_2, hp88_3, hp88_4⟩
      have fr88 := fr87.then fq88 (by simp)
      have kf88_68_9 : tI t88 68 9 = tI t87 68 9 := fq88.1 68 9 (by simp)
      have kf88_68_19 : tI t88 68 19 = tI t87 68 19 := fq88.1 68 19 (by simp)
      have kf88_68_20 : tI t88 68 20 = tI t87 68 20 := fq88.1 68 20 (by simp)
      have kf88_68_22 : tI t88 68 22 = tI t87 68 22 := fq88.1 68 22 (by simp)
      have eE := eE.fr fq88 (by simp) (by simp) (by simp) (by simp)
      refine w_push kc_1 ?_
      refine w_retI rfl ?_
      exact ⟨ok88, fr88, (by omega), (by omega), (by first | exact (fun _ => eE) | (intro h9; exact absurd rfl h9)), (by omega), (by omega), (by omega), (by omega), (by omega), (by omega), (by omega), (by omega)⟩
    refine w_aload rfl ?_
    refine w_getI (g_68_13 _) fe_68_13 ok (fun z89 hz89 hl89 hh89 => ?_)
    refine w_goto ?_
    refine w_step rfl ?_
    refine w_iast (i := (z77).toNat) (ai_78 _) rfl (by omega) (by omega) (ae_78 _) ok (by omega) (fun t90 ht90 ok90 => ?_)
    have kf90_68_9 : tI t90 68 9 = tI t 68 9 := by rw [ht90]; rfl
    have kf90_68_10 : tI t90 68 10 = tI t 68 10 := by rw [ht90]; rfl
    have kf90_68_11 : tI t90 68 11 = tI t 68 11 := by rw [ht90]; rfl
    have kf90_68_12 : tI t90 68 12 = tI t 68 12 := by rw [ht90]; rfl
    have kf90_68_13 : tI t90 68 13 = tI t 68 13 := by rw [ht90]; rfl
    have kf90_68_14 : tI t90 68 14 = tI t 68 14 := by rw [ht90]; rfl
    have kf90_68_19 : tI t90 68 19 = tI t 68 19 := by rw [ht90]; rfl
    have kf90_68_20 : tI t90 68 20 = tI t 68 20 := by rw [ht90]; rfl
    have kf90_68_22 : tI t90 68 22 = tI t 68 22 := by rw [ht90]; rfl
    have fr90 := fr.uA ht90 (by simp)
    have p1 := ht90
    refine w_aload rfl ?_
    refine w_dupR ?_
    refine w_getI (g_68_19 _) fe_68_19 ok90 (fun z91 hz91 hl91 hh91 => ?_)
    refine w_push kc_1 ?_
    refine w_add ?_
    refine w_putI (p_68_19 _) fe_68_19 ok90 (by omega) (fun t92 ht92 ok92 => ?_)
    have kf92_68_9 : tI t92 68 9 = tI t90 68 9 := by rw [ht92, tI_uI, if_neg (by decide)]
    have kf92_68_10 : tI t92 68 10 = tI t90 68 10 := by rw [ht92, tI_uI, if_neg (by decide)]
    have kf92_68_11 : tI t92 68 11 = tI t90 68 11 := by rw [ht92, tI_uI, if_neg (by decide)]
    have kf92_68_12 : tI t92 68 12 = tI t90 68 12 := by rw [ht92, tI_uI, if_neg (by decide)]
    have kf92_68_13 : tI t92 68 13 = tI t90 68 13 := by rw [ht92, tI_uI, if_neg (by decide)]
    have kf92_68_14 : tI t92 68 14 = tI t90 68 14 := by rw [ht92, tI_uI, if_neg (by decide)]
    have kf92_68_19 : tI t92 68 19 = (z91 + 1) := by rw [ht92, tI_uI, if_pos ⟨rfl, rfl⟩]
    have kf92_68_20 : tI t92 68 20 = tI t90 68 20 := by rw [ht92, tI_uI, if_neg (by decide)]
    have kf92_68_22 : tI t92 68 22 = tI t90 68 22 := by rw [ht92, tI_uI, if_neg (by decide)]
    have fr92 := fr90.uI ht92 (by simp)
    have p2 := ht92
    refine w_aload rfl ?_
    refine w_dupR ?_
    refine w_getI (g_68_20 _) fe_68_20 ok92 (fun z93 hz93 hl93 hh93 => ?_)
    refine w_push kc_1 ?_
    refine w_add ?_
    refine w_putI (p_68_20 _) fe_68_20 ok92 (by omega) (fun t94 ht94 ok94 => ?_)
    have kf94_68_9 : tI t94 68 9 = tI t92 68 9 := by rw [ht94, tI_uI, if_neg (by decide)]
    have kf94_68_10 : tI t94 68 10 = tI t92 68 10 := by rw [ht94, tI_uI, if_neg (by decide)]
    have kf94_68_11 : tI t94 68 11 = tI t92 68 11 := by rw [ht94, tI_uI, if_neg (by decide)]
    have kf94_68_12 : tI t94 68 12 = tI t92 68 12 := by rw [ht94, tI_uI, if_neg (by decide)]
    have kf94_68_13 : tI t94 68 13 = tI t92 68 13 := by rw [ht94, tI_uI, if_neg (by decide)]
    have kf94_68_14 : tI t94 68 14 = tI t92 68 14 := by rw [ht94, tI_uI, if_neg (by decide)]
    have kf94_68_19 : tI t94 68 19 = tI t92 68 19 := by rw [ht94, tI_uI, if_neg (by decide)]
    have kf94_68_20 : tI t94 68 20 = (z93 + 1) := by rw [ht94, tI_uI, if_pos ⟨rfl, rfl⟩]
    have kf94_68_22 : tI t94 68 22 = tI t92 68 22 := by rw [ht94, tI_uI, if_neg (by decide)]
    have fr94 := fr92.uI ht94 (by simp)
    have p3 := ht94
    have eE : EN t94 1 p := q0.opd (v := z89) (by omega) (by omega) (by omega) (by omega) (fun i => by rw [p3, tA_uI, p2, tA_uI, p1, tA_uA, if_neg (by omega)]) (fun i => by
      rw [p3, tA_uI, p2, tA_uI, p1, tA_uA]
      by_cases h9 : i = (tI t 68 19).toNat
      · rw [if_pos (by omega), if_pos h9]
      · rw [if_neg (by omega), if_neg h9])
    refine w_aload rfl ?_
    refine w_push kc_6 ?_
    refine w_callV1V (oj_68 _).choose_spec rfl (c_X9_settle ok94 eE.1 (by omega) (by omega) (by omega)) ?_
    rintro t95 ⟨ok95, fq95, hp95_0, hp95_1, hp95_2, hp95_3, hp95_4⟩
    have fr95 := fr94.then fq95 (by simp)
    have kf95_68_9 : tI t95 68 9 = tI t94 68 9 := fq95.1 68 9 (by simp)
    have kf95_68_10 : tI t95 68 10 = tI t94 68 10 := fq95.1 68 10 (by simp)
    have kf95_68_11 : tI t95 68 11 = tI t94 68 11 := fq95.1 68 11 (by simp)
    have kf95_68_12 : tI t95 68 12 = tI t94 68 12 := fq95.1 68 12 (by simp)
    have kf95_68_13 : tI t95 68 13 = tI t94 68 13 := fq95.1 68 13 (by simp)
    have kf95_68_14 : tI t95 68 14 = tI t94 68 14 := fq95.1 68 14 (by simp)
    have kf95_68_20 : tI t95 68 20 = tI t94 68 20 := fq95.1 68 20 (by simp)
    have eE := eE.st fq95 (by simp) hp95_0 hp95_4
    refine w_aload rfl ?_
    refine w_callV0V (oj_68 _).choose_spec rfl (c_X9_go ok95 (by omega)) ?_
    rintro t96 ⟨ok96, fq96, hp96_0, hp96_1, hp96_2, hp96_3, hp96_4⟩
    have fr96 := fr95.then fq96 (by simp)
    have kf96_68_9 : tI t96 68 9 = tI t95 68 9 := fq96.1 68 9 (by simp)
    have kf96_68_19 : tI t96 68 19 = tI t95 68 19 := fq96.1 68 19 (by simp)
    have kf96_68_20 : tI t96 68 20 = tI t95 68 20 := fq96.1 68 20 (by simp)
    have kf96_68_22 : tI t96 68 22 = tI t95 68 22 := fq96.1 68 22 (by simp)
    have eE := eE.fr fq96 (by simp) (by simp) (by simp) (by simp)
    refine w_push kc_1 ?_
    refine w_retI rfl ?_
    exact ⟨ok96, fr96, (by omega), (by omega), (by first | exact (fun _ => eE) | (intro h9; exact absurd rfl h9)), (by omega), (by omega), (by omega), (by omega), (by omega), (by omega), (by omega), (by omega)⟩
  refine w_iload rfl ?_
  refine w_ine (by omega) (fun _ => ?_) (fun h => absurd (by omega) h)
  refine w_step rfl ?_
  refine w_aload rfl ?_
  refine w_getR (g_68_18 _) ?_
  refine w_aload rfl ?_
  refine w_getI (g_68_19 _) fe_68_19 ok (fun z97 hz97 hl97 hh97 => ?_)
  refine w_aload rfl ?_
  refine w_getI (g_68_12 _) fe_68_12 ok (fun z98 hz98 hl98 hh98 => ?_)
  refine w_push kc_2 ?_
  refine w_cne (by omega) (fun h99 => ?_) (fun h99 => ?_)
  · skip
    refine w_step rfl ?_
    refine w_push kc_10000 ?_
    refine w_aload rfl ?_
    refine w_aload rfl ?_
    refine w_getI (g_68_13 _) fe_68_13 ok (fun z100 hz100 hl100 hh100 => ?_)
    refine w_callV1I (oj_68 _).choose_spec rfl (c_X9_nameOf ok (by omega) (by omega)) ?_
    rintro z101 t101 ⟨rfl, hp101_0, hp101_1, hp101_2⟩
    rw [hz100] at hp101_0
    refine w_add ?_
    refine w_goto ?_
    refine w_step rfl ?_
    refine w_iast (i := (z97).toNat) (ai_78 _) rfl (by omega) (by omega) (ae_78 _) ok (by omega) (fun t102 ht102 ok102 => ?_)
    have kf102_68_9 : tI t102 68 9 = tI t 68 9 := by rw [ht102]; rfl
    have kf102_68_10 : tI t102 68 10 = tI t 68 10 := by rw [ht102]; rfl
    have kf102_68_11 : tI t102 68 11 = tI t 68 11 := by rw [ht102]; rfl
    have kf102_68_12 : tI t102 68 12 = tI t 68 12 := by rw [ht102]; rfl
    have kf102_68_13 : tI t102 68 13 = tI t 68 13 := by rw [ht102]; rfl
    have kf102_68_14 : tI t102 68 14 = tI t 68 14 := by rw [ht102]; rfl
    have kf102_68_19 : tI t102 68 19 = tI t 68 19 := by rw [ht102]; rfl
    have kf102_68_20 : tI t102 68 20 = tI t 68 20 := by rw [ht102]; rfl
    have kf102_68_22 : tI t102 68 22 = tI t 68 22 := by rw [ht102]; rfl
    have fr102 := fr.uA ht102 (by simp)
    have p1 := ht102
    refine w_aload rfl ?_
    refine w_dupR ?_
    refine w_getI (g_68_19 _) fe_68_19 ok102 (fun z103 hz103 hl103 hh103 => ?_)
    refine w_push kc_1 ?_
    refine w_add ?_
    refine w_putI (p_68_19 _) fe_68_19 ok102 (by omega) (fun t104 ht104 ok104 => ?_)
    have kf104_68_9 : tI t104 68 9 = tI t102 68 9 := by rw [ht104, tI_uI, if_neg (by decide)]
    have kf104_68_10 : tI t104 68 10 = tI t102 68 10 := by rw [ht104, tI_uI, if_neg (by decide)]
    have kf104_68_11 : tI t104 68 11 = tI t102 68 11 := by rw [ht104, tI_uI, if_neg (by decide)]
    have kf104_68_12 : tI t104 68 12 = tI t102 68 12 := by rw [ht104, tI_uI, if_neg (by decide)]
    have kf104_68_13 : tI t104 68 13 = tI t102 68 13 := by rw [ht104, tI_uI, if_neg (by decide)]
    have kf104_68_14 : tI t104 68 14 = tI t102 68 14 := by rw [ht104, tI_uI, if_neg (by decide)]
    have kf104_68_19 : tI t104 68 19 = (z103 + 1) := by rw [ht104, tI_uI, if_pos ⟨rfl, rfl⟩]
    have kf104_68_20 : tI t104 68 20 = tI t102 68 20 := by rw [ht104, tI_uI, if_neg (by decide)]
    have kf104_68_22 : tI t104 68 22 = tI t102 68 22 := by rw [ht104, tI_uI, if_neg (by decide)]
    have fr104 := fr102.uI ht104 (by simp)
    have p2 := ht104
    refine w_aload rfl ?_
    refine w_dupR ?_
    refine w_getI (g_68_20 _) fe_68_20 ok104 (fun z105 hz105 hl105 hh105 => ?_)
    refine w_push kc_1 ?_
    refine w_add ?_
    refine w_putI (p_68_20 _) fe_68_20 ok104 (by omega) (fun t106 ht106 ok106 => ?_)
    have kf106_68_9 : tI t106 68 9 = tI t104 68 9 := by rw [ht106, tI_uI, if_neg (by decide)]
    have kf106_68_10 : tI t106 68 10 = tI t104 68 10 := by rw [ht106, tI_uI, if_neg (by decide)]
    have kf106_68_11 : tI t106 68 11 = tI t104 68 11 := by rw [ht106, tI_uI, if_neg (by decide)]
    have kf106_68_12 : tI t106 68 12 = tI t104 68 12 := by rw [ht106, tI_uI, if_neg (by decide)]
    have kf106_68_13 : tI t106 68 13 = tI t104 68 13 := by rw [ht106, tI_uI, if_neg (by decide)]
    have kf106_68_14 : tI t106 68 14 = tI t104 68 14 := by rw [ht106, tI_uI, if_neg (by decide)]
    have kf106_68_19 : tI t106 68 19 = tI t104 68 19 := by rw [ht106, tI_uI, if_neg (by decide)]
    have kf106_68_20 : tI t106 68 20 = (z105 + 1) := by rw [ht106, tI_uI, if_pos ⟨rfl, rfl⟩]
    have kf106_68_22 : tI t106 68 22 = tI t104 68 22 := by rw [ht106, tI_uI, if_neg (by decide)]
    have fr106 := fr104.uI ht106 (by simp)
    have p3 := ht106
    have eE : EN t106 1 p := q0.opd (v := (10000 + z101)) (by omega) (by omega) (by omega) (by omega) (fun i => by rw [p3, tA_uI, p2, tA_uI, p1, tA_uA, if_neg (by omega)]) (fun i => by
      rw [p3, tA_uI, p2, tA_uI, p1, tA_uA]
      by_cases h9 : i = (tI t 68 19).toNat
      · rw [if_pos (by omega), if_pos h9]
      · rw [if_neg (by omega), if_neg h9])
    refine w_aload rfl ?_
    refine w_push kc_6 ?_
    refine w_callV1V (oj_68 _).choose_spec rfl (c_X9_settle ok106 eE.1 (by omega) (by omega) (by omega)) ?_
    rintro t107 ⟨ok107, fq107, hp107_0, hp107_1, hp107_2, hp107_3, hp107_4⟩
    have fr107 := fr106.then fq107 (by simp)
    have kf107_68_9 : tI t107 68 9 = tI t106 68 9 := fq107.1 68 9 (by simp)
    have kf107_68_10 : tI t107 68 10 = tI t106 68 10 := fq107.1 68 10 (by simp)
    have kf107_68_11 : tI t107 68 11 = tI t106 68 11 := fq107.1 68 11 (by simp)
    have kf107_68_12 : tI t107 68 12 = tI t106 68 12 := fq107.1 68 12 (by simp)
    have kf107_68_13 : tI t107 68 13 = tI t106 68 13 := fq107.1 68 13 (by simp)
    have kf107_68_14 : tI t107 68 14 = tI t106 68 14 := fq107.1 68 14 (by simp)
    have kf107_68_20 : tI t107 68 20 = tI t106 68 20 := fq107.1 68 20 (by simp)
    have eE := eE.st fq107 (by simp) hp107_0 hp107_4
    refine w_aload rfl ?_
    refine w_callV0V (oj_68 _).choose_spec rfl (c_X9_go ok107 (by omega)) ?_
    rintro t108 ⟨ok108, fq108, hp108_0, hp108_1, hp108_2, hp108_3, hp108_4⟩
    have fr108 := fr107.then fq108 (by simp)
    have kf108_68_9 : tI t108 68 9 = tI t107 68 9 := fq108.1 68 9 (by simp)
    have kf108_68_19 : tI t108 68 19 = tI t107 68 19 := fq108.1 68 19 (by simp)
    have kf108_68_20 : tI t108 68 20 = tI t107 68 20 := fq108.1 68 20 (by simp)
    have kf108_68_22 : tI t108 68 22 = tI t107 68 22 := fq108.1 68 22 (by simp)
    have eE := eE.fr fq108 (by simp) (by simp) (by simp) (by simp)
    refine w_push kc_1 ?_
    refine w_retI rfl ?_
    exact ⟨ok108, fr108, (by omega), (by omega), (by first | exact (fun _ => eE) | (intro h9; exact absurd rfl h9)), (by omega), (by omega), (by omega), (by omega), (by omega), (by omega), (by omega), (by omega)⟩
  refine w_aload rfl ?_
  refine w_getI (g_68_13 _) fe_68_13 ok (fun z109 hz109 hl109 hh109 => ?_)
  refine w_goto ?_
  refine w_step rfl ?_
  refine w_iast (i := (z97).toNat) (ai_78 _) rfl (by omega) (by omega) (ae_78 _) ok (by omega) (fun t110 ht110 ok110 => ?_)
  have kf110_68_9 : tI t110 68 9 = tI t 68 9 := by rw [ht110]; rfl
  have kf110_68_10 : tI t110 68 10 = tI t 68 10 := by rw [ht110]; rfl
  have kf110_68_11 : tI t110 68 11 = tI t 68 11 := by rw [ht110]; rfl
  have kf110_68_12 : tI t110 68 12 = tI t 68 12 := by rw [ht110]; rfl
  have kf110_68_13 : tI t110 68 13 = tI t 68 13 := by rw [ht110]; rfl
  have kf110_68_14 : tI t110 68 14 = tI t 68 14 := by rw [ht110]; rfl
  have kf110_68_19 : tI t110 68 19 = tI t 68 19 := by rw [ht110]; rfl
  have kf110_68_20 : tI t110 68 20 = tI t 68 20 := by rw [ht110]; rfl
  have kf110_68_22 : tI t110 68 22 = tI t 68 22 := by rw [ht110]; rfl
  have fr110 := fr.uA ht110 (by simp)
  have p1 := ht110
  refine w_aload rfl ?_
  refine w_dupR ?_
  refine w_getI (g_68_19 _) fe_68_19 ok110 (fun z111 hz111 hl111 hh111 => ?_)
  refine w_push kc_1 ?_
  refine w_add ?_
  refine w_putI (p_68_19 _) fe_68_19 ok110 (by omega) (fun t112 ht112 ok112 => ?_)
  have kf112_68_9 : tI t112 68 9 = tI t110 68 9 := by rw [ht112, tI_uI, if_neg (by decide)]
  have kf112_68_10 : tI t112 68 10 = tI t110 68 10 := by rw [ht112, tI_uI, if_neg (by decide)]
  have kf112_68_11 : tI t112 68 11 = tI t110 68 11 := by rw [ht112, tI_uI, if_neg (by decide)]
  have kf112_68_12 : tI t112 68 12 = tI t110 68 12 := by rw [ht112, tI_uI, if_neg (by decide)]
  have kf112_68_13 : tI t112 68 13 = tI t110 68 13 := by rw [ht112, tI_uI, if_neg (by decide)]
  have kf112_68_14 : tI t112 68 14 = tI t110 68 14 := by rw [ht112, tI_uI, if_neg (by decide)]
  have kf112_68_19 : tI t112 68 19 = (z111 + 1) := by rw [ht112, tI_uI, if_pos ⟨rfl, rfl⟩]
  have kf112_68_20 : tI t112 68 20 = tI t110 68 20 := by rw [ht112, tI_uI, if_neg (by decide)]
  have kf112_68_22 : tI t112 68 22 = tI t110 68 22 := by rw [ht112, tI_uI, if_neg (by decide)]
  have fr112 := fr110.uI ht112 (by simp)
  have p2 := ht112
  refine w_aload rfl ?_
  refine w_dupR ?_
  refine w_getI (g_68_20 _) fe_68_20 ok112 (fun z113 hz113 hl113 hh113 => ?_)
  refine w_push kc_1 ?_
  refine w_add ?_
  refine w_putI (p_68_20 _) fe_68_20 ok112 (by omega) (fun t114 ht114 ok114 => ?_)
  have kf114_68_9 : tI t114 68 9 = tI t112 68 9 := by rw [ht114, tI_uI, if_neg (by decide)]
  have kf114_68_10 : tI t114 68 10 = tI t112 68 10 := by rw [ht114, tI_uI, if_neg (by decide)]
  have kf114_68_11 : tI t114 68 11 = tI t112 68 11 := by rw [ht114, tI_uI, if_neg (by decide)]
  have kf114_68_12 : tI t114 68 12 = tI t112 68 12 := by rw [ht114, tI_uI, if_neg (by decide)]
  have kf114_68_13 : tI t114 68 13 = tI t112 68 13 := by rw [ht114, tI_uI, if_neg (by decide)]
  have kf114_68_14 : tI t114 68 14 = tI t112 68 14 := by rw [ht114, tI_uI, if_neg (by decide)]
  have kf114_68_19 : tI t114 68 19 = tI t112 68 19 := by rw [ht114, tI_uI, if_neg (by decide)]
  have kf114_68_20 : tI t114 68 20 = (z113 + 1) := by rw [ht114, tI_uI, if_pos ⟨rfl, rfl⟩]
  have kf114_68_22 : tI t114 68 22 = tI t112 68 22 := by rw [ht114, tI_uI, if_neg (by decide)]
  have fr114 := fr112.uI ht114 (by simp)
  have p3 := ht114
  have eE : EN t114 1 p := q0.opd (v := z109) (by omega) (by omega) (by omega) (by omega) (fun i => by rw [p3, tA_uI, p2, tA_uI, p1, tA_uA, if_neg (by omega)]) (fun i => by
    rw [p3, tA_uI, p2, tA_uI, p1, tA_uA]
    by_cases h9 : i = (tI t 68 19).toNat
    · rw [if_pos (by omega), if_pos h9]
    · rw [if_neg (by omega), if_neg h9])
  refine w_aload rfl ?_
  refine w_push kc_6 ?_
  refine w_callV1V (oj_68 _).choose_spec rfl (c_X9_settle ok114 eE.1 (by omega) (by omega) (by omega)) ?_
  rintro t115 ⟨ok115, fq115, hp115_0, hp115_1, hp115_2, hp115_3, hp115_4⟩
  have fr115 := fr114.then fq115 (by simp)
  have kf115_68_9 : tI t115 68 9 = tI t114 68 9 := fq115.1 68 9 (by simp)
  have kf115_68_10 : tI t115 68 10 = tI t114 68 10 := fq115.1 68 10 (by simp)
  have kf115_68_11 : tI t115 68 11 = tI t114 68 11 := fq115.1 68 11 (by simp)
  have kf115_68_12 : tI t115 68 12 = tI t114 68 12 := fq115.1 68 12 (by simp)
  have kf115_68_13 : tI t115 68 13 = tI t114 68 13 := fq115.1 68 13 (by simp)
  have kf115_68_14 : tI t115 68 14 = tI t114 68 14 := fq115.1 68 14 (by simp)
  have kf115_68_20 : tI t115 68 20 = tI t114 68 20 := fq115.1 68 20 (by simp)
  have eE := eE.st fq115 (by simp) hp115_0 hp115_4
  refine w_aload rfl ?_
  refine w_callV0V (oj_68 _).choose_spec rfl (c_X9_go ok115 (by omega)) ?_
  rintro t116 ⟨ok116, fq116, hp116_0, hp116_1, hp116_2, hp116_3, hp116_4⟩
  have fr116 := fr115.then fq116 (by simp)
  have kf116_68_9 : tI t116 68 9 = tI t115 68 9 := fq116.1 68 9 (by simp)
  have kf116_68_19 : tI t116 68 19 = tI t115 68 19 := fq116.1 68 19 (by simp)
  have kf116_68_20 : tI t116 68 20 = tI t115 68 20 := fq116.1 68 20 (by simp)
  have kf116_68_22 : tI t116 68 22 = tI t115 68 22 := fq116.1 68 22 (by simp)
  have eE := eE.fr fq116 (by simp) (by simp) (by simp) (by simp)
  refine w_push kc_1 ?_
  refine w_retI rfl ?_
  exact ⟨ok116, fr116, (by omega), (by omega), (by first | exact (fun _ => eE) | (intro h9; exact absurd rfl h9)), (by omega), (by omega), (by omega), (by omega), (by omega), (by omega), (by omega), (by omega)⟩
set_option maxRecDepth 100000 in
set_option maxHeartbeats 4000000 in
theorem c_X9_notsOpen {d : Nat} {t : TS}  (ok : OK t) : CI (EX FU (d + 1)) 199 [.ref 68] (mk t) (fun z t' => t = t' ∧ (0 ≤ z) ∧ (z ≤ 96)) := by
  refine CI_ent (d := d + 0) (Bk := bX9_notsOpen) (nL := 3) rfl rfl rfl (Nat.le_of_ble_eq_true rfl) ?_
  show Rn _ 1000000 0 [some (.ref 68), none, none] [] _ _
  refine w_step rfl ?_
  refine w_push kc_0 ?_
  refine w_istore (lv' := [some (.ref 68), some (.int (jI 0)), none]) rfl ?_
  refine w_push kc_0 ?_
  refine w_istore (lv' := [some (.ref 68), some (.int (jI 0)), some (.int (jI 0))]) rfl ?_
  refine w_goto ?_
  have key1 : ∀ (n1 M1 : Nat) (n : Int) (k : Int), (0 ≤ k) → (k ≤ 96) → (0 ≤ n) → (n ≤ k) → 96 - k < (n1 : Int) → 60 * n1 + (1000) ≤ M1 → Rn (bX9_notsOpen (EX FU (d + 0))) M1 1 [some (.ref 68), some (.int (jI n)), some (.int (jI k))] [] (mk t) (PI (fun z t' => t = t' ∧ (0 ≤ z) ∧ (z ≤ 96))) := by
    intro n1
    induction n1 with
    | zero => intro M1 n k i1_0 i1_1 i1_2 i1_3 v1 f1; exfalso; omega
    | succ n1 ih1 =>
      intro M1 n k i1_0 i1_1 i1_2 i1_3 v1 f1
      obtain ⟨M1, rfl⟩ : ∃ m, M1 = m + 60 := ⟨M1 - 60, by omega⟩
      refine w_step rfl ?_
      refine w_iload rfl ?_
      refine w_aload rfl ?_
      refine w_getI (g_68_22 _) fe_68_22 ok (fun z1 hz1 hl1 hh1 => ?_)
      refine w_cge (by omega) (fun h2 => ?_) (fun h2 => ?_)
      · skip
        refine w_step rfl ?_
        refine w_iload rfl ?_
        refine w_retI rfl ?_
        exact ⟨rfl, (by omega), (by omega)⟩
      refine w_iload rfl ?_
      refine w_aload rfl ?_
      refine w_getR (g_68_21 _) ?_
      refine w_iload rfl ?_
      refine w_iald (i := (k).toNat) (ai_79 _) (by omega) (by omega) (ae_79 _) ok (fun z3 hz3 hl3 hh3 => ?_)
      refine w_push kc_m10 ?_
      refine w_cne (by omega) (fun h4 => ?_) (fun h4 => ?_)
      · skip
        refine w_step rfl ?_
        refine w_push kc_0 ?_
        refine w_goto ?_
        refine w_step rfl ?_
        refine w_add ?_
        refine w_istore (lv' := [some (.ref 68), some (.int (jI (n + 0))), some (.int (jI k))]) rfl ?_
        refine w_iinc (lv' := [some (.ref 68), some (.int (jI (n + 0))), some (.int (jI (k + 1)))]) kc_1 rfl rfl ?_
        refine w_goto ?_
        exact ih1 _ (n + 0) (k + 1)  (by omega) (by omega) (by omega) (by omega) (by omega) (by omega)
      refine w_push kc_1 ?_
      refine w_goto ?_
      refine w_step rfl ?_
      refine w_add ?_
      refine w_istore (lv' := [some (.ref 68), some (.int (jI (n + 1))), some (.int (jI k))]) rfl ?_
      refine w_iinc (lv' := [some (.ref 68), some (.int (jI (n + 1))), some (.int (jI (k + 1)))]) kc_1 rfl rfl ?_
      refine w_goto ?_
      exact ih1 _ (n + 1) (k + 1)  (by omega) (by omega) (by omega) (by omega) (by omega) (by omega)
  exact key1 97 _ 0 0  (by omega) (by omega) (by omega) (by omega) (by omega) (by omega)
